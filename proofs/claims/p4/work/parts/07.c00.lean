abbrev wd_1aefb835 (p0 : Nat) (p1 : Nat) (p2 : Int32) (p3 : Int32) : va_W := [(p0, .inr (0, [.ref p1, .int p2, .int p3]))]
abbrev wd_09b0abee (p0 : Nat) (p1 : Nat) (p2 : Int32) (p3 : Int32) (p4 : Int32) (p5 : Int32) : va_W := [(p0, .inr (10, [.ref p1, .int p2, .int p3, .int p4, .int p5]))]
abbrev wd_1cbc56ec (p0 : Nat) (p1 : Nat) (p2 : Nat) (p3 : Nat) (p4 : Nat) (p5 : Int32) (p6 : Int32) : va_W := [(p0, .inr (4, [.ref p1, .ref p2, .ref p3, .ref p4, .int p5, .int p6]))]
abbrev wd_c0c7465f (p0 : Nat) (p1 : Nat) (p2 : Nat) (p3 : Int32) (p4 : Int32) : va_W := [(p0, .inr (5, [.ref p1, .ref p2, .int p3, .int p4]))]
abbrev wd_ca2b0013 (p0 : Nat) (p1 : Nat) (p2 : Nat) (p3 : Nat) (p4 : Int32) (p5 : Int32) : va_W := [(p0, .inr (6, [.ref p1, .ref p2, .ref p3, .int p4, .int p5]))]
abbrev wd_38ee9ada (p0 : Nat) (p1 : Nat) (p2 : Nat) (p3 : Int32) (p4 : Int32) : va_W := [(p0, .inr (7, [.ref p1, .ref p2, .int p3, .int p4]))]
abbrev wd_076c5019 (p0 : Nat) (p1 : Nat) (p2 : Nat) (p3 : Nat) (p4 : Nat) (p5 : Nat) (p6 : Nat) (p7 : Nat) (p8 : Nat) (p9 : Int32) : va_W := [(p0, .inr (9, [.ref p1, .ref p2, .ref p3, .ref p4, .ref p5, .ref p6, .ref p7, .ref p8, .int p9]))]
abbrev wd_ff2a762e (p0 : Nat) (p1 : Nat) (p2 : Nat) (p3 : Nat) (p4 : Nat) (p5 : Nat) (p6 : Nat) (p7 : Nat) (p8 : Nat) (p9 : Nat) (p10 : Nat) (p11 : Nat) (p12 : Nat) (p13 : Nat) (p14 : Nat) (p15 : Int32) (p16 : Int32) (p17 : Int64) (p18 : Nat) (p19 : Nat) (p20 : Nat) (p21 : Nat) (p22 : Nat) (p23 : Int32) (p24 : Int32) : va_W := [(p0, .inr (11, [.ref p1, .ref p2, .ref p3, .ref p4, .ref p5, .ref p6, .ref p7, .ref p8, .ref p9, .ref p10, .ref p11, .ref p12, .ref p13, .ref p14, .int p15, .int p16, .long p17])), (p18, .inr (4, [.ref p19, .ref p20, .ref p21, .ref p22, .int p23, .int p24]))]
abbrev wd_be8fc520 (p0 : Nat) (p1 : Nat) (p2 : Nat) (p3 : Nat) (p4 : Nat) (p5 : Nat) (p6 : Nat) (p7 : Nat) (p8 : Nat) (p9 : Nat) (p10 : Nat) (p11 : Nat) (p12 : Nat) (p13 : Nat) (p14 : Nat) (p15 : Int32) (p16 : Int32) (p17 : Int64) : va_W := [(p0, .inr (11, [.ref p1, .ref p2, .ref p3, .ref p4, .ref p5, .ref p6, .ref p7, .ref p8, .ref p9, .ref p10, .ref p11, .ref p12, .ref p13, .ref p14, .int p15, .int p16, .long p17]))]
abbrev wd_ec98a0b6 (p0 : Nat) (p1 : Nat) (p2 : Nat) (p3 : Int32) (p4 : Int32) (p5 : Nat) (p6 : ClassId) (p7 : Nat → Int32) : va_W := [(p0, .inr (7, [.ref p1, .ref p2, .int p3, .int p4])), (p5, .inl (p6, 58, .inl p7))]
abbrev wd_c7d12799 (p0 : Nat) (p1 : ClassId) (p2 : Nat → Int32) : va_W := [(p0, .inl (p1, 58, .inl p2))]
abbrev wd_62728821 (p0 : Nat) (p1 : Nat) (p2 : Nat) (p3 : Nat) (p4 : Nat) (p5 : Nat) (p6 : Nat) (p7 : Int32) (p8 : Int32) (p9 : Int32) (p10 : Nat) (p11 : ClassId) (p12 : Nat → Int32) (p13 : Nat) (p14 : ClassId) (p15 : Nat → Int32) (p16 : Nat) (p17 : ClassId) (p18 : Nat → Int32) (p19 : Nat) (p20 : ClassId) (p21 : Nat → Int32) : va_W := [(p0, .inr (8, [.ref p1, .ref p2, .ref p3, .ref p4, .ref p5, .ref p6, .int p7, .int p8, .int p9])), (p10, .inl (p11, 8, .inl p12)), (p13, .inl (p14, 8, .inl p15)), (p16, .inl (p17, 8, .inl p18)), (p19, .inl (p20, 8, .inl p21))]
abbrev wd_47060168 (p0 : Nat) (p1 : Nat) (p2 : Nat) (p3 : Nat) (p4 : Nat) (p5 : Nat) (p6 : Nat) (p7 : Int32) (p8 : Int32) (p9 : Int32) : va_W := [(p0, .inr (8, [.ref p1, .ref p2, .ref p3, .ref p4, .ref p5, .ref p6, .int p7, .int p8, .int p9]))]
abbrev wd_1ad5b18c (p0 : Nat) (p1 : Nat) (p2 : Nat) (p3 : Nat) (p4 : Nat) (p5 : Nat) (p6 : Nat) (p7 : Int32) (p8 : Int32) (p9 : Int32) (p10 : Nat) (p11 : ClassId) (p12 : Nat → Int32) (p13 : Nat) (p14 : ClassId) (p15 : Nat → Int32) (p16 : Nat) (p17 : ClassId) (p18 : Nat → Int32) (p19 : Nat) (p20 : ClassId) (p21 : Nat → Int32) (p22 : Nat) (p23 : ClassId) (p24 : Nat → Int32) (p25 : Nat) (p26 : ClassId) (p27 : Nat → Int32) : va_W := [(p0, .inr (8, [.ref p1, .ref p2, .ref p3, .ref p4, .ref p5, .ref p6, .int p7, .int p8, .int p9])), (p10, .inl (p11, 8, .inl p12)), (p13, .inl (p14, 8, .inl p15)), (p16, .inl (p17, 8, .inl p18)), (p19, .inl (p20, 8, .inl p21)), (p22, .inl (p23, 8, .inl p24)), (p25, .inl (p26, 8, .inl p27))]
abbrev wd_c3b6304c (p0 : Nat) (p1 : ClassId) (p2 : Nat → Int32) (p3 : Nat) (p4 : ClassId) (p5 : Nat → Int32) : va_W := [(p0, .inl (p1, 8, .inl p2)), (p3, .inl (p4, 8, .inl p5))]
abbrev wd_b9b0151d (p0 : Nat) (p1 : ClassId) (p2 : Nat → Int32) (p3 : Nat) (p4 : ClassId) (p5 : Nat → Int32) (p6 : Nat) (p7 : ClassId) (p8 : Nat → Int32) (p9 : Nat) (p10 : ClassId) (p11 : Nat → Int32) (p12 : Nat) (p13 : ClassId) (p14 : Nat → Int32) (p15 : Nat) (p16 : ClassId) (p17 : Nat → Int32) : va_W := [(p0, .inl (p1, 8, .inl p2)), (p3, .inl (p4, 8, .inl p5)), (p6, .inl (p7, 8, .inl p8)), (p9, .inl (p10, 8, .inl p11)), (p12, .inl (p13, 8, .inl p14)), (p15, .inl (p16, 8, .inl p17))]
abbrev wd_0d02476e (p0 : Nat) (p1 : Nat) (p2 : Nat) (p3 : Nat) (p4 : Nat) (p5 : Nat) (p6 : Nat) (p7 : Int32) (p8 : Int32) (p9 : Int32) (p10 : Nat) (p11 : ClassId) (p12 : Nat → Int32) (p13 : Nat) (p14 : ClassId) (p15 : Nat → Int32) (p16 : Nat) (p17 : ClassId) (p18 : Nat → Int32) (p19 : Nat) (p20 : ClassId) (p21 : Nat → Int32) (p22 : Nat) (p23 : ClassId) (p24 : Nat → Int32) : va_W := [(p0, .inr (8, [.ref p1, .ref p2, .ref p3, .ref p4, .ref p5, .ref p6, .int p7, .int p8, .int p9])), (p10, .inl (p11, 8, .inl p12)), (p13, .inl (p14, 8, .inl p15)), (p16, .inl (p17, 8, .inl p18)), (p19, .inl (p20, 8, .inl p21)), (p22, .inl (p23, 8, .inl p24))]
abbrev wd_75d96bdd (p0 : Nat) (p1 : Nat) (p2 : Nat) (p3 : ClassId) (p4 : Nat → Int32) : va_W := [(p0, .inr (1, [.ref p1])), (p2, .inl (p3, 300, .inl p4))]
abbrev wd_8d6ecae7 (p0 : Nat) (p1 : Nat) (p2 : Nat) (p3 : Nat) (p4 : Nat) (p5 : Nat) (p6 : Nat) (p7 : Nat) (p8 : Nat) (p9 : Nat) (p10 : Nat) (p11 : Nat) (p12 : Nat) (p13 : Nat) (p14 : Nat) (p15 : Int32) (p16 : Int32) (p17 : Int64) (p18 : Nat) (p19 : Nat) (p20 : Nat) (p21 : Int32) (p22 : Int32) (p23 : Nat) (p24 : ClassId) (p25 : Nat → Int32) (p26 : Nat) (p27 : Nat) (p28 : Nat) (p29 : ClassId) (p30 : Nat → Int32) : va_W := [(p0, .inr (11, [.ref p1, .ref p2, .ref p3, .ref p4, .ref p5, .ref p6, .ref p7, .ref p8, .ref p9, .ref p10, .ref p11, .ref p12, .ref p13, .ref p14, .int p15, .int p16, .long p17])), (p18, .inr (7, [.ref p19, .ref p20, .int p21, .int p22])), (p23, .inl (p24, 58, .inl p25)), (p26, .inr (1, [.ref p27])), (p28, .inl (p29, 300, .inl p30))]
abbrev wd_a8c56b3a (p0 : Nat) (p1 : Nat) (p2 : Nat) (p3 : Nat) (p4 : Nat) (p5 : Nat) (p6 : Nat) (p7 : Nat) (p8 : Nat) (p9 : Nat) (p10 : Nat) (p11 : Nat) (p12 : Nat) (p13 : Nat) (p14 : Nat) (p15 : Int32) (p16 : Int32) (p17 : Int64) (p18 : Nat) (p19 : Nat) (p20 : Nat) (p21 : ClassId) (p22 : Nat → Int32) : va_W := [(p0, .inr (11, [.ref p1, .ref p2, .ref p3, .ref p4, .ref p5, .ref p6, .ref p7, .ref p8, .ref p9, .ref p10, .ref p11, .ref p12, .ref p13, .ref p14, .int p15, .int p16, .long p17])), (p18, .inr (1, [.ref p19])), (p20, .inl (p21, 300, .inl p22))]
abbrev wd_c0340af7 (p0 : Nat) (p1 : Nat) (p2 : Nat) (p3 : Nat) (p4 : Nat) (p5 : Nat) (p6 : Nat) (p7 : Nat) (p8 : Nat) (p9 : Nat) (p10 : Nat) (p11 : Nat) (p12 : Nat) (p13 : Nat) (p14 : Nat) (p15 : Int32) (p16 : Int32) (p17 : Int64) (p18 : Nat) (p19 : Nat) (p20 : Nat) (p21 : Int32) (p22 : Int32) (p23 : Nat) (p24 : ClassId) (p25 : Nat → Int32) : va_W := [(p0, .inr (11, [.ref p1, .ref p2, .ref p3, .ref p4, .ref p5, .ref p6, .ref p7, .ref p8, .ref p9, .ref p10, .ref p11, .ref p12, .ref p13, .ref p14, .int p15, .int p16, .long p17])), (p18, .inr (7, [.ref p19, .ref p20, .int p21, .int p22])), (p23, .inl (p24, 58, .inl p25))]
abbrev wd_4fcde533 (p0 : Nat) (p1 : Nat) (p2 : Nat) (p3 : Int32) (p4 : Int32) (p5 : Nat) (p6 : ClassId) (p7 : Nat → Int32) (p8 : Nat) (p9 : Nat) (p10 : Nat) (p11 : Int32) (p12 : Int32) (p13 : Nat) (p14 : ClassId) (p15 : Nat → Int32) : va_W := [(p0, .inr (7, [.ref p1, .ref p2, .int p3, .int p4])), (p5, .inl (p6, 58, .inl p7)), (p8, .inr (7, [.ref p9, .ref p10, .int p11, .int p12])), (p13, .inl (p14, 58, .inl p15))]
abbrev wd_9c9cf24a (p0 : Nat) (p1 : Nat) (p2 : Nat) (p3 : Int32) (p4 : Int32) (p5 : Nat) (p6 : ClassId) (p7 : Nat → Int32) : va_W := [(p0, .inr (7, [.ref p1, .ref p2, .int p3, .int p4])), (p5, .inl (p6, 8, .inl p7))]
abbrev wd_64a2b6a9 (p0 : Nat) (p1 : Nat) (p2 : Nat) (p3 : Int32) (p4 : Int32) (p5 : Nat) (p6 : ClassId) (p7 : Nat → Int32) (p8 : Nat) (p9 : ClassId) (p10 : Nat → Int32) : va_W := [(p0, .inr (7, [.ref p1, .ref p2, .int p3, .int p4])), (p5, .inl (p6, 58, .inl p7)), (p8, .inl (p9, 8, .inl p10))]
abbrev wd_3c8a40a2 (p0 : Nat) (p1 : Nat) (p2 : Nat) (p3 : Nat) (p4 : Nat) (p5 : Nat) (p6 : Nat) (p7 : Nat) (p8 : Nat) (p9 : Nat) (p10 : Nat) (p11 : Nat) (p12 : Nat) (p13 : Nat) (p14 : Nat) (p15 : Int32) (p16 : Int32) (p17 : Int64) (p18 : Nat) (p19 : Nat) (p20 : Nat) (p21 : Int32) (p22 : Int32) (p23 : Nat) (p24 : Nat) (p25 : Nat) (p26 : Int32) (p27 : Int32) (p28 : Nat) (p29 : ClassId) (p30 : Nat → Int32) (p31 : Nat) (p32 : ClassId) (p33 : Nat → Int32) : va_W := [(p0, .inr (11, [.ref p1, .ref p2, .ref p3, .ref p4, .ref p5, .ref p6, .ref p7, .ref p8, .ref p9, .ref p10, .ref p11, .ref p12, .ref p13, .ref p14, .int p15, .int p16, .long p17])), (p18, .inr (5, [.ref p19, .ref p20, .int p21, .int p22])), (p23, .inr (7, [.ref p24, .ref p25, .int p26, .int p27])), (p28, .inl (p29, 58, .inl p30)), (p31, .inl (p32, 8, .inl p33))]
abbrev wd_558c951d (p0 : Nat) (p1 : Nat) (p2 : Nat) (p3 : Nat) (p4 : Nat) (p5 : Nat) (p6 : Nat) (p7 : Nat) (p8 : Nat) (p9 : Nat) (p10 : Nat) (p11 : Nat) (p12 : Nat) (p13 : Nat) (p14 : Nat) (p15 : Int32) (p16 : Int32) (p17 : Int64) (p18 : Nat) (p19 : Nat) (p20 : Nat) (p21 : Int32) (p22 : Int32) (p23 : Nat) (p24 : ClassId) (p25 : Nat → Int32) (p26 : Nat) (p27 : ClassId) (p28 : Nat → Int32) : va_W := [(p0, .inr (11, [.ref p1, .ref p2, .ref p3, .ref p4, .ref p5, .ref p6, .ref p7, .ref p8, .ref p9, .ref p10, .ref p11, .ref p12, .ref p13, .ref p14, .int p15, .int p16, .long p17])), (p18, .inr (7, [.ref p19, .ref p20, .int p21, .int p22])), (p23, .inl (p24, 58, .inl p25)), (p26, .inl (p27, 8, .inl p28))]
abbrev wd_4339518d (p0 : Nat) (p1 : Nat) (p2 : Nat) (p3 : Nat) (p4 : Nat) (p5 : Nat) (p6 : Nat) (p7 : Nat) (p8 : Nat) (p9 : Nat) (p10 : Nat) (p11 : Nat) (p12 : Nat) (p13 : Nat) (p14 : Nat) (p15 : Int32) (p16 : Int32) (p17 : Int64) (p18 : Nat) (p19 : Nat) (p20 : Nat) (p21 : Int32) (p22 : Int32) : va_W := [(p0, .inr (11, [.ref p1, .ref p2, .ref p3, .ref p4, .ref p5, .ref p6, .ref p7, .ref p8, .ref p9, .ref p10, .ref p11, .ref p12, .ref p13, .ref p14, .int p15, .int p16, .long p17])), (p18, .inr (5, [.ref p19, .ref p20, .int p21, .int p22]))]
def q_X0_number : List Cond := .code yX0_number cX0_number 1 (some .int) :: (([.fieldLink RX0 19 "LeftArguments$Acts" "number" "I"] : List Cond) ++ wsX00)
set_option maxHeartbeats 4000000 in
set_option maxRecDepth 100000 in
theorem k_X0_number (l : Launch) (dC : Nat → ClassId) (dI : Nat → Nat → Nat) (h0 : Nat) (r0 : Nat) (v0 : Int32) (v1 : Int32) (i_v0 : 0 ≤ v0.toInt ∧ v0.toInt ≤ 39) (i_v1 : 0 ≤ v1.toInt ∧ v1.toInt ≤ 40) (sz : Nat) : Met l yX0_number q_X0_number ({ frames := 0, cells := 0, slots := 0, locals := 0 }) (va_Pc [.ref h0] (fun U => U.heap.size = sz ∧ va_P (dC, dI) vwCl (wd_1aefb835 h0 r0 v0 v1) U.heap ∧ va_K (dC, dI) vwCl [] U ∧ va_D (fun _ => True) (wd_1aefb835 h0 r0 v0 v1))) (va_Qi (fun (r : Int32) (_ : Unit) => 0 ≤ r.toInt ∧ r.toInt ≤ 40) (fun (_ : Unit) (t : State) => va_P (dC, dI) vwCl (wd_1aefb835 h0 r0 v0 v1) t.heap ∧ va_K (dC, dI) vwCl [] t ∧ va_D (va_A (wd_1aefb835 h0 r0 v0 v1) sz) (wd_1aefb835 h0 r0 v0 v1)) (va_A (wd_1aefb835 h0 r0 v0 v1) sz)) 0 0 (va_A (wd_1aefb835 h0 r0 v0 v1) sz) := by
  refine Met.ofW (cc := cX0_number) (maxL := 1) (ret := (some .int)) (by decide) rfl ?_
  intro p e s m args below meth c s₁ B hml hv
  obtain ⟨i_v0a, i_v0b⟩ := i_v0
  obtain ⟨i_v1a, i_v1b⟩ := i_v1
  obtain ⟨rfl, hsz, hP, hK, hD0⟩ := hv
  have hx := B.exec
  have hb := B.bytes
  have hr := B.returns
  have hts := atoms_spec (ws := q_X0_number) B.pre
  have hown : s.vm.findClass RX0 = some m.cls := findClass_of_methodNamed B.named
  have hlocks := B.notSynchronized
  subst hsz
  have hD := hD0.self (sz := s.heap.size)
  generalize hAe : va_A (wd_1aefb835 h0 r0 v0 v1) s.heap.size = A at hD ⊢
  have hA : ∀ q : Nat, s.heap.size ≤ q → A q := fun q h => by rw [← hAe]; exact Or.inr h
  have hS : va_S A s.heap s.heap [] := va_S.rf
  generalize hQ : (MQ below _ _ s 0 0 A) = Q
  have hl := lv_entry ([.ref h0]) (n := 1) (Nat.le_of_ble_eq_true rfl)
  rw [lg_entry_eq]
  generalize (lg_sl ([.ref h0]) ++ List.replicate (1 - (lg_sl ([.ref h0])).length) Slot.unset).toArray = ls at hl ⊢
  have hl : lv_has ls 1 [(0, .ref h0)] := hl
  obtain ⟨H, hH⟩ : ∃ H : Heap, H = s.heap := ⟨_, rfl⟩
  obtain ⟨locs, hlocs⟩ : ∃ y : List Loc, y = [] := ⟨_, rfl⟩
  have hS : va_S A s.heap H locs := by rw [hH, hlocs]; exact va_S.rf
  have hP : va_P (dC, dI) vwCl (wd_1aefb835 h0 r0 v0 v1) H := by rw [hH]; exact hP
  rw [← hH, ← hlocs]
  refine lv_aload_n hx hb dX0_number_0 rfl (lv_at hl 0 rfl) ?_
  refine va_get (D := (dC, dI)) (ci := 0) (v := .int v1) (C := RX0) (T := TX0) (N := 3) hx hb hts (fun _ h => List.mem_cons_of_mem _ (List.mem_append_right _ h)) hown hK hP 0 rfl rfl 2 (by decide) (hts (.fieldLink RX0 19 "LeftArguments$Acts" "number" "I") (List.mem_cons_of_mem _ (List.mem_append_left _ (List.mem_of_getElem? (i := 0) rfl)))) (fun _ h9 => h9) rfl dX0_number_1 ?_
  subst hQ
  have hP9 := hP.sub (ws' := (wd_1aefb835 h0 r0 v0 v1)) [0] rfl
  have hD9 := hD.sub (ws' := (wd_1aefb835 h0 r0 v0 v1)) [0] (by decide) rfl
  have hK9 := hK.sub (tys' := []) [] rfl
  exact W.iret (v := v1) hx hb hr (fun t ht hW => ⟨⟨v1, (), rfl, ⟨by first | omega | decide, by first | omega | decide⟩, by rw [ht]; exact hP9, va_K.moved hW.alike hK9, hD9⟩, hS.F ht⟩) hS.2.2 dX0_number_4
def q_X10_number : List Cond := .code yX10_number cX10_number 1 (some .int) :: (([.fieldLink RX10 25 "LeftArguments$Tape" "number" "I"] : List Cond) ++ wsX100)
set_option maxHeartbeats 4000000 in
set_option maxRecDepth 100000 in
theorem k_X10_number (l : Launch) (dC : Nat → ClassId) (dI : Nat → Nat → Nat) (h0 : Nat) (r0 : Nat) (v0 : Int32) (v1 : Int32) (v2 : Int32) (v3 : Int32) (i_v0 : 0 ≤ v0.toInt ∧ v0.toInt ≤ 240) (sz : Nat) : Met l yX10_number q_X10_number ({ frames := 0, cells := 0, slots := 0, locals := 0 }) (va_Pc [.ref h0] (fun U => U.heap.size = sz ∧ va_P (dC, dI) vwCl (wd_09b0abee h0 r0 v0 v1 v2 v3) U.heap ∧ va_K (dC, dI) vwCl [] U ∧ va_D (fun _ => True) (wd_09b0abee h0 r0 v0 v1 v2 v3))) (va_Qi (fun (r : Int32) (r9 : Int32) => r9 = r) (fun (r : Int32) (t : State) => ((r = v3) ∧ va_P (dC, dI) vwCl (wd_09b0abee h0 r0 v0 v1 v2 v3) t.heap ∧ va_K (dC, dI) vwCl [] t ∧ va_D (va_A (wd_09b0abee h0 r0 v0 v1 v2 v3) sz) (wd_09b0abee h0 r0 v0 v1 v2 v3))) (va_A (wd_09b0abee h0 r0 v0 v1 v2 v3) sz)) 0 0 (va_A (wd_09b0abee h0 r0 v0 v1 v2 v3) sz) := by
  refine Met.ofW (cc := cX10_number) (maxL := 1) (ret := (some .int)) (by decide) rfl ?_
  intro p e s m args below meth c s₁ B hml hv
  obtain ⟨i_v0a, i_v0b⟩ := i_v0
  obtain ⟨rfl, hsz, hP, hK, hD0⟩ := hv
  have hx := B.exec
  have hb := B.bytes
  have hr := B.returns
  have hts := atoms_spec (ws := q_X10_number) B.pre
  have hown : s.vm.findClass RX10 = some m.cls := findClass_of_methodNamed B.named
  have hlocks := B.notSynchronized
  subst hsz
  have hD := hD0.self (sz := s.heap.size)
  generalize hAe : va_A (wd_09b0abee h0 r0 v0 v1 v2 v3) s.heap.size = A at hD ⊢
  have hA : ∀ q : Nat, s.heap.size ≤ q → A q := fun q h => by rw [← hAe]; exact Or.inr h
  have hS : va_S A s.heap s.heap [] := va_S.rf
  generalize hQ : (MQ below _ _ s 0 0 A) = Q
  have hl := lv_entry ([.ref h0]) (n := 1) (Nat.le_of_ble_eq_true rfl)
  rw [lg_entry_eq]
  generalize (lg_sl ([.ref h0]) ++ List.replicate (1 - (lg_sl ([.ref h0])).length) Slot.unset).toArray = ls at hl ⊢
  have hl : lv_has ls 1 [(0, .ref h0)] := hl
  obtain ⟨H, hH⟩ : ∃ H : Heap, H = s.heap := ⟨_, rfl⟩
  obtain ⟨locs, hlocs⟩ : ∃ y : List Loc, y = [] := ⟨_, rfl⟩
  have hS : va_S A s.heap H locs := by rw [hH, hlocs]; exact va_S.rf
  have hP : va_P (dC, dI) vwCl (wd_09b0abee h0 r0 v0 v1 v2 v3) H := by rw [hH]; exact hP
  rw [← hH, ← hlocs]
  refine lv_aload_n hx hb dX10_number_0 rfl (lv_at hl 0 rfl) ?_
  refine va_get (D := (dC, dI)) (ci := 10) (v := .int v3) (C := RX10) (T := TX10) (N := 5) hx hb hts (fun _ h => List.mem_cons_of_mem _ (List.mem_append_right _ h)) hown hK hP 0 rfl rfl 4 (by decide) (hts (.fieldLink RX10 25 "LeftArguments$Tape" "number" "I") (List.mem_cons_of_mem _ (List.mem_append_left _ (List.mem_of_getElem? (i := 0) rfl)))) (fun _ h9 => h9) rfl dX10_number_1 ?_
  subst hQ
  have hP9 := hP.sub (ws' := (wd_09b0abee h0 r0 v0 v1 v2 v3)) [0] rfl
  have hD9 := hD.sub (ws' := (wd_09b0abee h0 r0 v0 v1 v2 v3)) [0] (by decide) rfl
  have hK9 := hK.sub (tys' := []) [] rfl
  exact W.iret (v := v3) hx hb hr (fun t ht hW => ⟨⟨v3, v3, rfl, rfl, ⟨by rfl, by rw [ht]; exact hP9, va_K.moved hW.alike hK9, hD9⟩⟩, hS.F ht⟩) hS.2.2 dX10_number_4
def q_X10_used : List Cond := .code yX10_used cX10_used 1 (some .int) :: (([.fieldLink RX10 15 "LeftArguments$Tape" "used" "I"] : List Cond) ++ wsX100)
set_option maxHeartbeats 4000000 in
set_option maxRecDepth 100000 in
theorem k_X10_used (l : Launch) (dC : Nat → ClassId) (dI : Nat → Nat → Nat) (h0 : Nat) (r0 : Nat) (v0 : Int32) (v1 : Int32) (v2 : Int32) (v3 : Int32) (i_v0 : 0 ≤ v0.toInt ∧ v0.toInt ≤ 240) (sz : Nat) : Met l yX10_used q_X10_used ({ frames := 0, cells := 0, slots := 0, locals := 0 }) (va_Pc [.ref h0] (fun U => U.heap.size = sz ∧ va_P (dC, dI) vwCl (wd_09b0abee h0 r0 v0 v1 v2 v3) U.heap ∧ va_K (dC, dI) vwCl [] U ∧ va_D (fun _ => True) (wd_09b0abee h0 r0 v0 v1 v2 v3))) (va_Qi (fun (r : Int32) (r9 : Int32) => r9 = r) (fun (r : Int32) (t : State) => ((0 ≤ r.toInt) ∧ (r.toInt ≤ 240) ∧ (r.toInt = v0.toInt) ∧ va_P (dC, dI) vwCl (wd_09b0abee h0 r0 v0 v1 v2 v3) t.heap ∧ va_K (dC, dI) vwCl [] t ∧ va_D (va_A (wd_09b0abee h0 r0 v0 v1 v2 v3) sz) (wd_09b0abee h0 r0 v0 v1 v2 v3))) (va_A (wd_09b0abee h0 r0 v0 v1 v2 v3) sz)) 0 0 (va_A (wd_09b0abee h0 r0 v0 v1 v2 v3) sz) := by
  refine Met.ofW (cc := cX10_used) (maxL := 1) (ret := (some .int)) (by decide) rfl ?_
  intro p e s m args below meth c s₁ B hml hv
  obtain ⟨i_v0a, i_v0b⟩ := i_v0
  obtain ⟨rfl, hsz, hP, hK, hD0⟩ := hv
  have hx := B.exec
  have hb := B.bytes
  have hr := B.returns
  have hts := atoms_spec (ws := q_X10_used) B.pre
  have hown : s.vm.findClass RX10 = some m.cls := findClass_of_methodNamed B.named
  have hlocks := B.notSynchronized
  subst hsz
  have hD := hD0.self (sz := s.heap.size)
  generalize hAe : va_A (wd_09b0abee h0 r0 v0 v1 v2 v3) s.heap.size = A at hD ⊢
  have hA : ∀ q : Nat, s.heap.size ≤ q → A q := fun q h => by rw [← hAe]; exact Or.inr h
  have hS : va_S A s.heap s.heap [] := va_S.rf
  generalize hQ : (MQ below _ _ s 0 0 A) = Q
  have hl := lv_entry ([.ref h0]) (n := 1) (Nat.le_of_ble_eq_true rfl)
  rw [lg_entry_eq]
  generalize (lg_sl ([.ref h0]) ++ List.replicate (1 - (lg_sl ([.ref h0])).length) Slot.unset).toArray = ls at hl ⊢
  have hl : lv_has ls 1 [(0, .ref h0)] := hl
  obtain ⟨H, hH⟩ : ∃ H : Heap, H = s.heap := ⟨_, rfl⟩
  obtain ⟨locs, hlocs⟩ : ∃ y : List Loc, y = [] := ⟨_, rfl⟩
  have hS : va_S A s.heap H locs := by rw [hH, hlocs]; exact va_S.rf
  have hP : va_P (dC, dI) vwCl (wd_09b0abee h0 r0 v0 v1 v2 v3) H := by rw [hH]; exact hP
  rw [← hH, ← hlocs]
  refine lv_aload_n hx hb dX10_used_0 rfl (lv_at hl 0 rfl) ?_
  refine va_get (D := (dC, dI)) (ci := 10) (v := .int v0) (C := RX10) (T := TX10) (N := 5) hx hb hts (fun _ h => List.mem_cons_of_mem _ (List.mem_append_right _ h)) hown hK hP 0 rfl rfl 1 (by decide) (hts (.fieldLink RX10 15 "LeftArguments$Tape" "used" "I") (List.mem_cons_of_mem _ (List.mem_append_left _ (List.mem_of_getElem? (i := 0) rfl)))) (fun _ h9 => h9) rfl dX10_used_1 ?_
  subst hQ
  have hP9 := hP.sub (ws' := (wd_09b0abee h0 r0 v0 v1 v2 v3)) [0] rfl
  have hD9 := hD.sub (ws' := (wd_09b0abee h0 r0 v0 v1 v2 v3)) [0] (by decide) rfl
  have hK9 := hK.sub (tys' := []) [] rfl
  exact W.iret (v := v0) hx hb hr (fun t ht hW => ⟨⟨v0, v0, rfl, rfl, ⟨by first | omega | decide, by first | omega | decide, by rfl, by rw [ht]; exact hP9, va_K.moved hW.alike hK9, hD9⟩⟩, hS.F ht⟩) hS.2.2 dX10_used_4
def q_X10_wrongAt : List Cond := .code yX10_wrongAt cX10_wrongAt 1 (some .int) :: (([.fieldLink RX10 22 "LeftArguments$Tape" "wrongAt" "I"] : List Cond) ++ wsX100)
set_option maxHeartbeats 4000000 in
set_option maxRecDepth 100000 in
theorem k_X10_wrongAt (l : Launch) (dC : Nat → ClassId) (dI : Nat → Nat → Nat) (h0 : Nat) (r0 : Nat) (v0 : Int32) (v1 : Int32) (v2 : Int32) (v3 : Int32) (i_v0 : 0 ≤ v0.toInt ∧ v0.toInt ≤ 240) (sz : Nat) : Met l yX10_wrongAt q_X10_wrongAt ({ frames := 0, cells := 0, slots := 0, locals := 0 }) (va_Pc [.ref h0] (fun U => U.heap.size = sz ∧ va_P (dC, dI) vwCl (wd_09b0abee h0 r0 v0 v1 v2 v3) U.heap ∧ va_K (dC, dI) vwCl [] U ∧ va_D (fun _ => True) (wd_09b0abee h0 r0 v0 v1 v2 v3))) (va_Qi (fun (r : Int32) (r9 : Int32) => r9 = r) (fun (r : Int32) (t : State) => ((r.toInt = v2.toInt) ∧ va_P (dC, dI) vwCl (wd_09b0abee h0 r0 v0 v1 v2 v3) t.heap ∧ va_K (dC, dI) vwCl [] t ∧ va_D (va_A (wd_09b0abee h0 r0 v0 v1 v2 v3) sz) (wd_09b0abee h0 r0 v0 v1 v2 v3))) (va_A (wd_09b0abee h0 r0 v0 v1 v2 v3) sz)) 0 0 (va_A (wd_09b0abee h0 r0 v0 v1 v2 v3) sz) := by
  refine Met.ofW (cc := cX10_wrongAt) (maxL := 1) (ret := (some .int)) (by decide) rfl ?_
  intro p e s m args below meth c s₁ B hml hv
  obtain ⟨i_v0a, i_v0b⟩ := i_v0
  obtain ⟨rfl, hsz, hP, hK, hD0⟩ := hv
  have hx := B.exec
  have hb := B.bytes
  have hr := B.returns
  have hts := atoms_spec (ws := q_X10_wrongAt) B.pre
  have hown : s.vm.findClass RX10 = some m.cls := findClass_of_methodNamed B.named
  have hlocks := B.notSynchronized
  subst hsz
  have hD := hD0.self (sz := s.heap.size)
  generalize hAe : va_A (wd_09b0abee h0 r0 v0 v1 v2 v3) s.heap.size = A at hD ⊢
  have hA : ∀ q : Nat, s.heap.size ≤ q → A q := fun q h => by rw [← hAe]; exact Or.inr h
  have hS : va_S A s.heap s.heap [] := va_S.rf
  generalize hQ : (MQ below _ _ s 0 0 A) = Q
  have hl := lv_entry ([.ref h0]) (n := 1) (Nat.le_of_ble_eq_true rfl)
  rw [lg_entry_eq]
  generalize (lg_sl ([.ref h0]) ++ List.replicate (1 - (lg_sl ([.ref h0])).length) Slot.unset).toArray = ls at hl ⊢
  have hl : lv_has ls 1 [(0, .ref h0)] := hl
  obtain ⟨H, hH⟩ : ∃ H : Heap, H = s.heap := ⟨_, rfl⟩
  obtain ⟨locs, hlocs⟩ : ∃ y : List Loc, y = [] := ⟨_, rfl⟩
  have hS : va_S A s.heap H locs := by rw [hH, hlocs]; exact va_S.rf
  have hP : va_P (dC, dI) vwCl (wd_09b0abee h0 r0 v0 v1 v2 v3) H := by rw [hH]; exact hP
  rw [← hH, ← hlocs]
  refine lv_aload_n hx hb dX10_wrongAt_0 rfl (lv_at hl 0 rfl) ?_
  refine va_get (D := (dC, dI)) (ci := 10) (v := .int v2) (C := RX10) (T := TX10) (N := 5) hx hb hts (fun _ h => List.mem_cons_of_mem _ (List.mem_append_right _ h)) hown hK hP 0 rfl rfl 3 (by decide) (hts (.fieldLink RX10 22 "LeftArguments$Tape" "wrongAt" "I") (List.mem_cons_of_mem _ (List.mem_append_left _ (List.mem_of_getElem? (i := 0) rfl)))) (fun _ h9 => h9) rfl dX10_wrongAt_1 ?_
  subst hQ
  have hP9 := hP.sub (ws' := (wd_09b0abee h0 r0 v0 v1 v2 v3)) [0] rfl
  have hD9 := hD.sub (ws' := (wd_09b0abee h0 r0 v0 v1 v2 v3)) [0] (by decide) rfl
  have hK9 := hK.sub (tys' := []) [] rfl
  exact W.iret (v := v2) hx hb hr (fun t ht hW => ⟨⟨v2, v2, rfl, rfl, ⟨by rfl, by rw [ht]; exact hP9, va_K.moved hW.alike hK9, hD9⟩⟩, hS.F ht⟩) hS.2.2 dX10_wrongAt_4
def q_X4_chosen : List Cond := .code yX4_chosen cX4_chosen 1 (some .int) :: (([.fieldLink RX4 32 "LeftArguments$Laws" "chosen" "I"] : List Cond) ++ wsX40)
set_option maxHeartbeats 4000000 in
set_option maxRecDepth 100000 in
theorem k_X4_chosen (l : Launch) (dC : Nat → ClassId) (dI : Nat → Nat → Nat) (h0 : Nat) (r0 : Nat) (r1 : Nat) (r2 : Nat) (r3 : Nat) (v0 : Int32) (v1 : Int32) (i_v0 : 0 ≤ v0.toInt ∧ v0.toInt ≤ 4) (sz : Nat) : Met l yX4_chosen q_X4_chosen ({ frames := 0, cells := 0, slots := 0, locals := 0 }) (va_Pc [.ref h0] (fun U => U.heap.size = sz ∧ va_P (dC, dI) vwCl (wd_1cbc56ec h0 r0 r1 r2 r3 v0 v1) U.heap ∧ va_K (dC, dI) vwCl [] U ∧ va_D (fun _ => True) (wd_1cbc56ec h0 r0 r1 r2 r3 v0 v1))) (va_Qi (fun (r : Int32) (_ : Unit) => True) (fun (_ : Unit) (t : State) => va_P (dC, dI) vwCl (wd_1cbc56ec h0 r0 r1 r2 r3 v0 v1) t.heap ∧ va_K (dC, dI) vwCl [] t ∧ va_D (va_A (wd_1cbc56ec h0 r0 r1 r2 r3 v0 v1) sz) (wd_1cbc56ec h0 r0 r1 r2 r3 v0 v1)) (va_A (wd_1cbc56ec h0 r0 r1 r2 r3 v0 v1) sz)) 0 0 (va_A (wd_1cbc56ec h0 r0 r1 r2 r3 v0 v1) sz) := by
  refine Met.ofW (cc := cX4_chosen) (maxL := 1) (ret := (some .int)) (by decide) rfl ?_
  intro p e s m args below meth c s₁ B hml hv
  obtain ⟨i_v0a, i_v0b⟩ := i_v0
  obtain ⟨rfl, hsz, hP, hK, hD0⟩ := hv
  have hx := B.exec
  have hb := B.bytes
  have hr := B.returns
  have hts := atoms_spec (ws := q_X4_chosen) B.pre
  have hown : s.vm.findClass RX4 = some m.cls := findClass_of_methodNamed B.named
  have hlocks := B.notSynchronized
  subst hsz
  have hD := hD0.self (sz := s.heap.size)
  generalize hAe : va_A (wd_1cbc56ec h0 r0 r1 r2 r3 v0 v1) s.heap.size = A at hD ⊢
  have hA : ∀ q : Nat, s.heap.size ≤ q → A q := fun q h => by rw [← hAe]; exact Or.inr h
  have hS : va_S A s.heap s.heap [] := va_S.rf
  generalize hQ : (MQ below _ _ s 0 0 A) = Q
  have hl := lv_entry ([.ref h0]) (n := 1) (Nat.le_of_ble_eq_true rfl)
  rw [lg_entry_eq]
  generalize (lg_sl ([.ref h0]) ++ List.replicate (1 - (lg_sl ([.ref h0])).length) Slot.unset).toArray = ls at hl ⊢
  have hl : lv_has ls 1 [(0, .ref h0)] := hl
  obtain ⟨H, hH⟩ : ∃ H : Heap, H = s.heap := ⟨_, rfl⟩
  obtain ⟨locs, hlocs⟩ : ∃ y : List Loc, y = [] := ⟨_, rfl⟩
  have hS : va_S A s.heap H locs := by rw [hH, hlocs]; exact va_S.rf
  have hP : va_P (dC, dI) vwCl (wd_1cbc56ec h0 r0 r1 r2 r3 v0 v1) H := by rw [hH]; exact hP
  rw [← hH, ← hlocs]
  refine lv_aload_n hx hb dX4_chosen_0 rfl (lv_at hl 0 rfl) ?_
  refine va_get (D := (dC, dI)) (ci := 4) (v := .int v1) (C := RX4) (T := TX4) (N := 6) hx hb hts (fun _ h => List.mem_cons_of_mem _ (List.mem_append_right _ h)) hown hK hP 0 rfl rfl 5 (by decide) (hts (.fieldLink RX4 32 "LeftArguments$Laws" "chosen" "I") (List.mem_cons_of_mem _ (List.mem_append_left _ (List.mem_of_getElem? (i := 0) rfl)))) (fun _ h9 => h9) rfl dX4_chosen_1 ?_
  subst hQ
  have hP9 := hP.sub (ws' := (wd_1cbc56ec h0 r0 r1 r2 r3 v0 v1)) [0] rfl
  have hD9 := hD.sub (ws' := (wd_1cbc56ec h0 r0 r1 r2 r3 v0 v1)) [0] (by decide) rfl
  have hK9 := hK.sub (tys' := []) [] rfl
  exact W.iret (v := v1) hx hb hr (fun t ht hW => ⟨⟨v1, (), rfl, trivial, by rw [ht]; exact hP9, va_K.moved hW.alike hK9, hD9⟩, hS.F ht⟩) hS.2.2 dX4_chosen_4
def q_X4_number : List Cond := .code yX4_number cX4_number 1 (some .int) :: (([.fieldLink RX4 28 "LeftArguments$Laws" "number" "I"] : List Cond) ++ wsX40)
set_option maxHeartbeats 4000000 in
set_option maxRecDepth 100000 in
theorem k_X4_number (l : Launch) (dC : Nat → ClassId) (dI : Nat → Nat → Nat) (h0 : Nat) (r0 : Nat) (r1 : Nat) (r2 : Nat) (r3 : Nat) (v0 : Int32) (v1 : Int32) (i_v0 : 0 ≤ v0.toInt ∧ v0.toInt ≤ 4) (sz : Nat) : Met l yX4_number q_X4_number ({ frames := 0, cells := 0, slots := 0, locals := 0 }) (va_Pc [.ref h0] (fun U => U.heap.size = sz ∧ va_P (dC, dI) vwCl (wd_1cbc56ec h0 r0 r1 r2 r3 v0 v1) U.heap ∧ va_K (dC, dI) vwCl [] U ∧ va_D (fun _ => True) (wd_1cbc56ec h0 r0 r1 r2 r3 v0 v1))) (va_Qi (fun (r : Int32) (r9 : Int32) => r9 = r) (fun (r : Int32) (t : State) => ((0 ≤ r.toInt) ∧ (r.toInt ≤ 4) ∧ (r.toInt = v0.toInt) ∧ va_P (dC, dI) vwCl (wd_1cbc56ec h0 r0 r1 r2 r3 v0 v1) t.heap ∧ va_K (dC, dI) vwCl [] t ∧ va_D (va_A (wd_1cbc56ec h0 r0 r1 r2 r3 v0 v1) sz) (wd_1cbc56ec h0 r0 r1 r2 r3 v0 v1))) (va_A (wd_1cbc56ec h0 r0 r1 r2 r3 v0 v1) sz)) 0 0 (va_A (wd_1cbc56ec h0 r0 r1 r2 r3 v0 v1) sz) := by
  refine Met.ofW (cc := cX4_number) (maxL := 1) (ret := (some .int)) (by decide) rfl ?_
  intro p e s m args below meth c s₁ B hml hv
  obtain ⟨i_v0a, i_v0b⟩ := i_v0
  obtain ⟨rfl, hsz, hP, hK, hD0⟩ := hv
  have hx := B.exec
  have hb := B.bytes
  have hr := B.returns
  have hts := atoms_spec (ws := q_X4_number) B.pre
  have hown : s.vm.findClass RX4 = some m.cls := findClass_of_methodNamed B.named
  have hlocks := B.notSynchronized
  subst hsz
  have hD := hD0.self (sz := s.heap.size)
  generalize hAe : va_A (wd_1cbc56ec h0 r0 r1 r2 r3 v0 v1) s.heap.size = A at hD ⊢
  have hA : ∀ q : Nat, s.heap.size ≤ q → A q := fun q h => by rw [← hAe]; exact Or.inr h
  have hS : va_S A s.heap s.heap [] := va_S.rf
  generalize hQ : (MQ below _ _ s 0 0 A) = Q
  have hl := lv_entry ([.ref h0]) (n := 1) (Nat.le_of_ble_eq_true rfl)
  rw [lg_entry_eq]
  generalize (lg_sl ([.ref h0]) ++ List.replicate (1 - (lg_sl ([.ref h0])).length) Slot.unset).toArray = ls at hl ⊢
  have hl : lv_has ls 1 [(0, .ref h0)] := hl
  obtain ⟨H, hH⟩ : ∃ H : Heap, H = s.heap := ⟨_, rfl⟩
  obtain ⟨locs, hlocs⟩ : ∃ y : List Loc, y = [] := ⟨_, rfl⟩
  have hS : va_S A s.heap H locs := by rw [hH, hlocs]; exact va_S.rf
  have hP : va_P (dC, dI) vwCl (wd_1cbc56ec h0 r0 r1 r2 r3 v0 v1) H := by rw [hH]; exact hP
  rw [← hH, ← hlocs]
  refine lv_aload_n hx hb dX4_number_0 rfl (lv_at hl 0 rfl) ?_
  refine va_get (D := (dC, dI)) (ci := 4) (v := .int v0) (C := RX4) (T := TX4) (N := 6) hx hb hts (fun _ h => List.mem_cons_of_mem _ (List.mem_append_right _ h)) hown hK hP 0 rfl rfl 4 (by decide) (hts (.fieldLink RX4 28 "LeftArguments$Laws" "number" "I") (List.mem_cons_of_mem _ (List.mem_append_left _ (List.mem_of_getElem? (i := 0) rfl)))) (fun _ h9 => h9) rfl dX4_number_1 ?_
  subst hQ
  have hP9 := hP.sub (ws' := (wd_1cbc56ec h0 r0 r1 r2 r3 v0 v1)) [0] rfl
  have hD9 := hD.sub (ws' := (wd_1cbc56ec h0 r0 r1 r2 r3 v0 v1)) [0] (by decide) rfl
  have hK9 := hK.sub (tys' := []) [] rfl
  exact W.iret (v := v0) hx hb hr (fun t ht hW => ⟨⟨v0, v0, rfl, rfl, ⟨by first | omega | decide, by first | omega | decide, by rfl, by rw [ht]; exact hP9, va_K.moved hW.alike hK9, hD9⟩⟩, hS.F ht⟩) hS.2.2 dX4_number_4
def q_X5_stands : List Cond := .code yX5_stands cX5_stands 1 (some .boolean) :: (([.fieldLink RX5 24 "LeftArguments$Office" "stands" "Z"] : List Cond) ++ wsX50)
set_option maxHeartbeats 4000000 in
set_option maxRecDepth 100000 in
theorem k_X5_stands (l : Launch) (dC : Nat → ClassId) (dI : Nat → Nat → Nat) (h0 : Nat) (r0 : Nat) (r1 : Nat) (v0 : Int32) (v1 : Int32) (i_v1 : 0 ≤ v1.toInt ∧ v1.toInt ≤ 1) (sz : Nat) : Met l yX5_stands q_X5_stands ({ frames := 0, cells := 0, slots := 0, locals := 0 }) (va_Pc [.ref h0] (fun U => U.heap.size = sz ∧ va_P (dC, dI) vwCl (wd_c0c7465f h0 r0 r1 v0 v1) U.heap ∧ va_K (dC, dI) vwCl [] U ∧ va_D (fun _ => True) (wd_c0c7465f h0 r0 r1 v0 v1))) (va_Qi (fun (r : Int32) (_ : Unit) => 0 ≤ r.toInt ∧ r.toInt ≤ 1) (fun (_ : Unit) (t : State) => va_P (dC, dI) vwCl (wd_c0c7465f h0 r0 r1 v0 v1) t.heap ∧ va_K (dC, dI) vwCl [] t ∧ va_D (va_A (wd_c0c7465f h0 r0 r1 v0 v1) sz) (wd_c0c7465f h0 r0 r1 v0 v1)) (va_A (wd_c0c7465f h0 r0 r1 v0 v1) sz)) 0 0 (va_A (wd_c0c7465f h0 r0 r1 v0 v1) sz) := by
  refine Met.ofW (cc := cX5_stands) (maxL := 1) (ret := (some .boolean)) (by decide) rfl ?_
  intro p e s m args below meth c s₁ B hml hv
  obtain ⟨i_v1a, i_v1b⟩ := i_v1
  obtain ⟨rfl, hsz, hP, hK, hD0⟩ := hv
  have hx := B.exec
  have hb := B.bytes
  have hr := B.returns
  have hts := atoms_spec (ws := q_X5_stands) B.pre
  have hown : s.vm.findClass RX5 = some m.cls := findClass_of_methodNamed B.named
  have hlocks := B.notSynchronized
  subst hsz
  have hD := hD0.self (sz := s.heap.size)
  generalize hAe : va_A (wd_c0c7465f h0 r0 r1 v0 v1) s.heap.size = A at hD ⊢
  have hA : ∀ q : Nat, s.heap.size ≤ q → A q := fun q h => by rw [← hAe]; exact Or.inr h
  have hS : va_S A s.heap s.heap [] := va_S.rf
  generalize hQ : (MQ below _ _ s 0 0 A) = Q
  have hl := lv_entry ([.ref h0]) (n := 1) (Nat.le_of_ble_eq_true rfl)
  rw [lg_entry_eq]
  generalize (lg_sl ([.ref h0]) ++ List.replicate (1 - (lg_sl ([.ref h0])).length) Slot.unset).toArray = ls at hl ⊢
  have hl : lv_has ls 1 [(0, .ref h0)] := hl
  obtain ⟨H, hH⟩ : ∃ H : Heap, H = s.heap := ⟨_, rfl⟩
  obtain ⟨locs, hlocs⟩ : ∃ y : List Loc, y = [] := ⟨_, rfl⟩
  have hS : va_S A s.heap H locs := by rw [hH, hlocs]; exact va_S.rf
  have hP : va_P (dC, dI) vwCl (wd_c0c7465f h0 r0 r1 v0 v1) H := by rw [hH]; exact hP
  rw [← hH, ← hlocs]
  refine lv_aload_n hx hb dX5_stands_0 rfl (lv_at hl 0 rfl) ?_
  refine va_get (D := (dC, dI)) (ci := 5) (v := .int v1) (C := RX5) (T := TX5) (N := 4) hx hb hts (fun _ h => List.mem_cons_of_mem _ (List.mem_append_right _ h)) hown hK hP 0 rfl rfl 3 (by decide) (hts (.fieldLink RX5 24 "LeftArguments$Office" "stands" "Z") (List.mem_cons_of_mem _ (List.mem_append_left _ (List.mem_of_getElem? (i := 0) rfl)))) (fun _ h9 => h9) rfl dX5_stands_1 ?_
  subst hQ
  have hP9 := hP.sub (ws' := (wd_c0c7465f h0 r0 r1 v0 v1)) [0] rfl
  have hD9 := hD.sub (ws' := (wd_c0c7465f h0 r0 r1 v0 v1)) [0] (by decide) rfl
  have hK9 := hK.sub (tys' := []) [] rfl
  exact W.zret (v := v1) hx hb hr (pv_nz (by omega) (by omega)) (fun t ht hW => ⟨⟨v1, (), rfl, ⟨by first | omega | decide, by first | omega | decide⟩, by rw [ht]; exact hP9, va_K.moved hW.alike hK9, hD9⟩, hS.F ht⟩) hS.2.2 dX5_stands_4
def q_X5_toldCount : List Cond := .code yX5_toldCount cX5_toldCount 1 (some .int) :: (([.fieldLink RX5 20 "LeftArguments$Office" "toldCount" "I"] : List Cond) ++ wsX50)
set_option maxHeartbeats 4000000 in
set_option maxRecDepth 100000 in
theorem k_X5_toldCount (l : Launch) (dC : Nat → ClassId) (dI : Nat → Nat → Nat) (h0 : Nat) (r0 : Nat) (r1 : Nat) (v0 : Int32) (v1 : Int32) (i_v1 : 0 ≤ v1.toInt ∧ v1.toInt ≤ 1) (sz : Nat) : Met l yX5_toldCount q_X5_toldCount ({ frames := 0, cells := 0, slots := 0, locals := 0 }) (va_Pc [.ref h0] (fun U => U.heap.size = sz ∧ va_P (dC, dI) vwCl (wd_c0c7465f h0 r0 r1 v0 v1) U.heap ∧ va_K (dC, dI) vwCl [] U ∧ va_D (fun _ => True) (wd_c0c7465f h0 r0 r1 v0 v1))) (va_Qi (fun (r : Int32) (r9 : Int32) => r9 = r) (fun (r : Int32) (t : State) => ((r.toInt = v0.toInt) ∧ va_P (dC, dI) vwCl (wd_c0c7465f h0 r0 r1 v0 v1) t.heap ∧ va_K (dC, dI) vwCl [] t ∧ va_D (va_A (wd_c0c7465f h0 r0 r1 v0 v1) sz) (wd_c0c7465f h0 r0 r1 v0 v1))) (va_A (wd_c0c7465f h0 r0 r1 v0 v1) sz)) 0 0 (va_A (wd_c0c7465f h0 r0 r1 v0 v1) sz) := by
  refine Met.ofW (cc := cX5_toldCount) (maxL := 1) (ret := (some .int)) (by decide) rfl ?_
  intro p e s m args below meth c s₁ B hml hv
  obtain ⟨i_v1a, i_v1b⟩ := i_v1
  obtain ⟨rfl, hsz, hP, hK, hD0⟩ := hv
  have hx := B.exec
  have hb := B.bytes
  have hr := B.returns
  have hts := atoms_spec (ws := q_X5_toldCount) B.pre
  have hown : s.vm.findClass RX5 = some m.cls := findClass_of_methodNamed B.named
  have hlocks := B.notSynchronized
  subst hsz
  have hD := hD0.self (sz := s.heap.size)
  generalize hAe : va_A (wd_c0c7465f h0 r0 r1 v0 v1) s.heap.size = A at hD ⊢
  have hA : ∀ q : Nat, s.heap.size ≤ q → A q := fun q h => by rw [← hAe]; exact Or.inr h
  have hS : va_S A s.heap s.heap [] := va_S.rf
  generalize hQ : (MQ below _ _ s 0 0 A) = Q
  have hl := lv_entry ([.ref h0]) (n := 1) (Nat.le_of_ble_eq_true rfl)
  rw [lg_entry_eq]
  generalize (lg_sl ([.ref h0]) ++ List.replicate (1 - (lg_sl ([.ref h0])).length) Slot.unset).toArray = ls at hl ⊢
  have hl : lv_has ls 1 [(0, .ref h0)] := hl
  obtain ⟨H, hH⟩ : ∃ H : Heap, H = s.heap := ⟨_, rfl⟩
  obtain ⟨locs, hlocs⟩ : ∃ y : List Loc, y = [] := ⟨_, rfl⟩
  have hS : va_S A s.heap H locs := by rw [hH, hlocs]; exact va_S.rf
  have hP : va_P (dC, dI) vwCl (wd_c0c7465f h0 r0 r1 v0 v1) H := by rw [hH]; exact hP
  rw [← hH, ← hlocs]
  refine lv_aload_n hx hb dX5_toldCount_0 rfl (lv_at hl 0 rfl) ?_
  refine va_get (D := (dC, dI)) (ci := 5) (v := .int v0) (C := RX5) (T := TX5) (N := 4) hx hb hts (fun _ h => List.mem_cons_of_mem _ (List.mem_append_right _ h)) hown hK hP 0 rfl rfl 2 (by decide) (hts (.fieldLink RX5 20 "LeftArguments$Office" "toldCount" "I") (List.mem_cons_of_mem _ (List.mem_append_left _ (List.mem_of_getElem? (i := 0) rfl)))) (fun _ h9 => h9) rfl dX5_toldCount_1 ?_
  subst hQ
  have hP9 := hP.sub (ws' := (wd_c0c7465f h0 r0 r1 v0 v1)) [0] rfl
  have hD9 := hD.sub (ws' := (wd_c0c7465f h0 r0 r1 v0 v1)) [0] (by decide) rfl
  have hK9 := hK.sub (tys' := []) [] rfl
  exact W.iret (v := v0) hx hb hr (fun t ht hW => ⟨⟨v0, v0, rfl, rfl, ⟨by rfl, by rw [ht]; exact hP9, va_K.moved hW.alike hK9, hD9⟩⟩, hS.F ht⟩) hS.2.2 dX5_toldCount_4
def q_X6_bagCount : List Cond := .code yX6_bagCount cX6_bagCount 1 (some .int) :: (([.fieldLink RX6 22 "LeftArguments$OfficeReader" "bagCount" "I"] : List Cond) ++ wsX60)
set_option maxHeartbeats 4000000 in
set_option maxRecDepth 100000 in
theorem k_X6_bagCount (l : Launch) (dC : Nat → ClassId) (dI : Nat → Nat → Nat) (h0 : Nat) (r0 : Nat) (r1 : Nat) (r2 : Nat) (v0 : Int32) (v1 : Int32) (i_v0 : 0 ≤ v0.toInt ∧ v0.toInt ≤ 1) (i_v1 : 0 ≤ v1.toInt ∧ v1.toInt ≤ 8) (sz : Nat) : Met l yX6_bagCount q_X6_bagCount ({ frames := 0, cells := 0, slots := 0, locals := 0 }) (va_Pc [.ref h0] (fun U => U.heap.size = sz ∧ va_P (dC, dI) vwCl (wd_ca2b0013 h0 r0 r1 r2 v0 v1) U.heap ∧ va_K (dC, dI) vwCl [] U ∧ va_D (fun _ => True) (wd_ca2b0013 h0 r0 r1 r2 v0 v1))) (va_Qi (fun (r : Int32) (r9 : Int32) => r9 = r) (fun (r : Int32) (t : State) => ((0 ≤ r.toInt) ∧ (r.toInt ≤ 8) ∧ (r.toInt = v1.toInt) ∧ va_P (dC, dI) vwCl (wd_ca2b0013 h0 r0 r1 r2 v0 v1) t.heap ∧ va_K (dC, dI) vwCl [] t ∧ va_D (va_A (wd_ca2b0013 h0 r0 r1 r2 v0 v1) sz) (wd_ca2b0013 h0 r0 r1 r2 v0 v1))) (va_A (wd_ca2b0013 h0 r0 r1 r2 v0 v1) sz)) 0 0 (va_A (wd_ca2b0013 h0 r0 r1 r2 v0 v1) sz) := by
  refine Met.ofW (cc := cX6_bagCount) (maxL := 1) (ret := (some .int)) (by decide) rfl ?_
  intro p e s m args below meth c s₁ B hml hv
  obtain ⟨i_v0a, i_v0b⟩ := i_v0
  obtain ⟨i_v1a, i_v1b⟩ := i_v1
  obtain ⟨rfl, hsz, hP, hK, hD0⟩ := hv
  have hx := B.exec
  have hb := B.bytes
  have hr := B.returns
  have hts := atoms_spec (ws := q_X6_bagCount) B.pre
  have hown : s.vm.findClass RX6 = some m.cls := findClass_of_methodNamed B.named
  have hlocks := B.notSynchronized
  subst hsz
  have hD := hD0.self (sz := s.heap.size)
  generalize hAe : va_A (wd_ca2b0013 h0 r0 r1 r2 v0 v1) s.heap.size = A at hD ⊢
  have hA : ∀ q : Nat, s.heap.size ≤ q → A q := fun q h => by rw [← hAe]; exact Or.inr h
  have hS : va_S A s.heap s.heap [] := va_S.rf
  generalize hQ : (MQ below _ _ s 0 0 A) = Q
  have hl := lv_entry ([.ref h0]) (n := 1) (Nat.le_of_ble_eq_true rfl)
  rw [lg_entry_eq]
  generalize (lg_sl ([.ref h0]) ++ List.replicate (1 - (lg_sl ([.ref h0])).length) Slot.unset).toArray = ls at hl ⊢
  have hl : lv_has ls 1 [(0, .ref h0)] := hl
  obtain ⟨H, hH⟩ : ∃ H : Heap, H = s.heap := ⟨_, rfl⟩
  obtain ⟨locs, hlocs⟩ : ∃ y : List Loc, y = [] := ⟨_, rfl⟩
  have hS : va_S A s.heap H locs := by rw [hH, hlocs]; exact va_S.rf
  have hP : va_P (dC, dI) vwCl (wd_ca2b0013 h0 r0 r1 r2 v0 v1) H := by rw [hH]; exact hP
  rw [← hH, ← hlocs]
  refine lv_aload_n hx hb dX6_bagCount_0 rfl (lv_at hl 0 rfl) ?_
  refine va_get (D := (dC, dI)) (ci := 6) (v := .int v1) (C := RX6) (T := TX6) (N := 5) hx hb hts (fun _ h => List.mem_cons_of_mem _ (List.mem_append_right _ h)) hown hK hP 0 rfl rfl 4 (by decide) (hts (.fieldLink RX6 22 "LeftArguments$OfficeReader" "bagCount" "I") (List.mem_cons_of_mem _ (List.mem_append_left _ (List.mem_of_getElem? (i := 0) rfl)))) (fun _ h9 => h9) rfl dX6_bagCount_1 ?_
  subst hQ
  have hP9 := hP.sub (ws' := (wd_ca2b0013 h0 r0 r1 r2 v0 v1)) [0] rfl
  have hD9 := hD.sub (ws' := (wd_ca2b0013 h0 r0 r1 r2 v0 v1)) [0] (by decide) rfl
  have hK9 := hK.sub (tys' := []) [] rfl
  exact W.iret (v := v1) hx hb hr (fun t ht hW => ⟨⟨v1, v1, rfl, rfl, ⟨by first | omega | decide, by first | omega | decide, by rfl, by rw [ht]; exact hP9, va_K.moved hW.alike hK9, hD9⟩⟩, hS.F ht⟩) hS.2.2 dX6_bagCount_4
def q_X7_ended : List Cond := .code yX7_ended cX7_ended 1 (some .int) :: (([.fieldLink RX7 22 "LeftArguments$Room" "ended" "I"] : List Cond) ++ wsX70)
set_option maxHeartbeats 4000000 in
set_option maxRecDepth 100000 in
theorem k_X7_ended (l : Launch) (dC : Nat → ClassId) (dI : Nat → Nat → Nat) (h0 : Nat) (r0 : Nat) (r1 : Nat) (v0 : Int32) (v1 : Int32) (sz : Nat) : Met l yX7_ended q_X7_ended ({ frames := 0, cells := 0, slots := 0, locals := 0 }) (va_Pc [.ref h0] (fun U => U.heap.size = sz ∧ va_P (dC, dI) vwCl (wd_38ee9ada h0 r0 r1 v0 v1) U.heap ∧ va_K (dC, dI) vwCl [] U ∧ va_D (fun _ => True) (wd_38ee9ada h0 r0 r1 v0 v1))) (va_Qi (fun (r : Int32) (_ : Unit) => True) (fun (_ : Unit) (t : State) => va_P (dC, dI) vwCl (wd_38ee9ada h0 r0 r1 v0 v1) t.heap ∧ va_K (dC, dI) vwCl [] t ∧ va_D (va_A (wd_38ee9ada h0 r0 r1 v0 v1) sz) (wd_38ee9ada h0 r0 r1 v0 v1)) (va_A (wd_38ee9ada h0 r0 r1 v0 v1) sz)) 0 0 (va_A (wd_38ee9ada h0 r0 r1 v0 v1) sz) := by
  refine Met.ofW (cc := cX7_ended) (maxL := 1) (ret := (some .int)) (by decide) rfl ?_
  intro p e s m args below meth c s₁ B hml hv
  obtain ⟨rfl, hsz, hP, hK, hD0⟩ := hv
  have hx := B.exec
  have hb := B.bytes
  have hr := B.returns
  have hts := atoms_spec (ws := q_X7_ended) B.pre
  have hown : s.vm.findClass RX7 = some m.cls := findClass_of_methodNamed B.named
  have hlocks := B.notSynchronized
  subst hsz
  have hD := hD0.self (sz := s.heap.size)
  generalize hAe : va_A (wd_38ee9ada h0 r0 r1 v0 v1) s.heap.size = A at hD ⊢
  have hA : ∀ q : Nat, s.heap.size ≤ q → A q := fun q h => by rw [← hAe]; exact Or.inr h
  have hS : va_S A s.heap s.heap [] := va_S.rf
  generalize hQ : (MQ below _ _ s 0 0 A) = Q
  have hl := lv_entry ([.ref h0]) (n := 1) (Nat.le_of_ble_eq_true rfl)
  rw [lg_entry_eq]
  generalize (lg_sl ([.ref h0]) ++ List.replicate (1 - (lg_sl ([.ref h0])).length) Slot.unset).toArray = ls at hl ⊢
  have hl : lv_has ls 1 [(0, .ref h0)] := hl
  obtain ⟨H, hH⟩ : ∃ H : Heap, H = s.heap := ⟨_, rfl⟩
  obtain ⟨locs, hlocs⟩ : ∃ y : List Loc, y = [] := ⟨_, rfl⟩
  have hS : va_S A s.heap H locs := by rw [hH, hlocs]; exact va_S.rf
  have hP : va_P (dC, dI) vwCl (wd_38ee9ada h0 r0 r1 v0 v1) H := by rw [hH]; exact hP
  rw [← hH, ← hlocs]
  refine lv_aload_n hx hb dX7_ended_0 rfl (lv_at hl 0 rfl) ?_
  refine va_get (D := (dC, dI)) (ci := 7) (v := .int v1) (C := RX7) (T := TX7) (N := 4) hx hb hts (fun _ h => List.mem_cons_of_mem _ (List.mem_append_right _ h)) hown hK hP 0 rfl rfl 3 (by decide) (hts (.fieldLink RX7 22 "LeftArguments$Room" "ended" "I") (List.mem_cons_of_mem _ (List.mem_append_left _ (List.mem_of_getElem? (i := 0) rfl)))) (fun _ h9 => h9) rfl dX7_ended_1 ?_
  subst hQ
  have hP9 := hP.sub (ws' := (wd_38ee9ada h0 r0 r1 v0 v1)) [0] rfl
  have hD9 := hD.sub (ws' := (wd_38ee9ada h0 r0 r1 v0 v1)) [0] (by decide) rfl
  have hK9 := hK.sub (tys' := []) [] rfl
  exact W.iret (v := v1) hx hb hr (fun t ht hW => ⟨⟨v1, (), rfl, trivial, by rw [ht]; exact hP9, va_K.moved hW.alike hK9, hD9⟩, hS.F ht⟩) hS.2.2 dX7_ended_4
def q_X7_fell : List Cond := .code yX7_fell cX7_fell 1 (some .int) :: (([.fieldLink RX7 18 "LeftArguments$Room" "fell" "I"] : List Cond) ++ wsX70)
set_option maxHeartbeats 4000000 in
set_option maxRecDepth 100000 in
theorem k_X7_fell (l : Launch) (dC : Nat → ClassId) (dI : Nat → Nat → Nat) (h0 : Nat) (r0 : Nat) (r1 : Nat) (v0 : Int32) (v1 : Int32) (sz : Nat) : Met l yX7_fell q_X7_fell ({ frames := 0, cells := 0, slots := 0, locals := 0 }) (va_Pc [.ref h0] (fun U => U.heap.size = sz ∧ va_P (dC, dI) vwCl (wd_38ee9ada h0 r0 r1 v0 v1) U.heap ∧ va_K (dC, dI) vwCl [] U ∧ va_D (fun _ => True) (wd_38ee9ada h0 r0 r1 v0 v1))) (va_Qi (fun (r : Int32) (_ : Unit) => True) (fun (_ : Unit) (t : State) => va_P (dC, dI) vwCl (wd_38ee9ada h0 r0 r1 v0 v1) t.heap ∧ va_K (dC, dI) vwCl [] t ∧ va_D (va_A (wd_38ee9ada h0 r0 r1 v0 v1) sz) (wd_38ee9ada h0 r0 r1 v0 v1)) (va_A (wd_38ee9ada h0 r0 r1 v0 v1) sz)) 0 0 (va_A (wd_38ee9ada h0 r0 r1 v0 v1) sz) := by
  refine Met.ofW (cc := cX7_fell) (maxL := 1) (ret := (some .int)) (by decide) rfl ?_
  intro p e s m args below meth c s₁ B hml hv
  obtain ⟨rfl, hsz, hP, hK, hD0⟩ := hv
  have hx := B.exec
  have hb := B.bytes
  have hr := B.returns
  have hts := atoms_spec (ws := q_X7_fell) B.pre
  have hown : s.vm.findClass RX7 = some m.cls := findClass_of_methodNamed B.named
  have hlocks := B.notSynchronized
  subst hsz
  have hD := hD0.self (sz := s.heap.size)
  generalize hAe : va_A (wd_38ee9ada h0 r0 r1 v0 v1) s.heap.size = A at hD ⊢
  have hA : ∀ q : Nat, s.heap.size ≤ q → A q := fun q h => by rw [← hAe]; exact Or.inr h
  have hS : va_S A s.heap s.heap [] := va_S.rf
  generalize hQ : (MQ below _ _ s 0 0 A) = Q
  have hl := lv_entry ([.ref h0]) (n := 1) (Nat.le_of_ble_eq_true rfl)
  rw [lg_entry_eq]
  generalize (lg_sl ([.ref h0]) ++ List.replicate (1 - (lg_sl ([.ref h0])).length) Slot.unset).toArray = ls at hl ⊢
  have hl : lv_has ls 1 [(0, .ref h0)] := hl
  obtain ⟨H, hH⟩ : ∃ H : Heap, H = s.heap := ⟨_, rfl⟩
  obtain ⟨locs, hlocs⟩ : ∃ y : List Loc, y = [] := ⟨_, rfl⟩
  have hS : va_S A s.heap H locs := by rw [hH, hlocs]; exact va_S.rf
  have hP : va_P (dC, dI) vwCl (wd_38ee9ada h0 r0 r1 v0 v1) H := by rw [hH]; exact hP
  rw [← hH, ← hlocs]
  refine lv_aload_n hx hb dX7_fell_0 rfl (lv_at hl 0 rfl) ?_
  refine va_get (D := (dC, dI)) (ci := 7) (v := .int v0) (C := RX7) (T := TX7) (N := 4) hx hb hts (fun _ h => List.mem_cons_of_mem _ (List.mem_append_right _ h)) hown hK hP 0 rfl rfl 2 (by decide) (hts (.fieldLink RX7 18 "LeftArguments$Room" "fell" "I") (List.mem_cons_of_mem _ (List.mem_append_left _ (List.mem_of_getElem? (i := 0) rfl)))) (fun _ h9 => h9) rfl dX7_fell_1 ?_
  subst hQ
  have hP9 := hP.sub (ws' := (wd_38ee9ada h0 r0 r1 v0 v1)) [0] rfl
  have hD9 := hD.sub (ws' := (wd_38ee9ada h0 r0 r1 v0 v1)) [0] (by decide) rfl
  have hK9 := hK.sub (tys' := []) [] rfl
  exact W.iret (v := v0) hx hb hr (fun t ht hW => ⟨⟨v0, (), rfl, trivial, by rw [ht]; exact hP9, va_K.moved hW.alike hK9, hD9⟩, hS.F ht⟩) hS.2.2 dX7_fell_4
def q_X9_number : List Cond := .code yX9_number cX9_number 1 (some .int) :: (([.fieldLink RX9 35 "LeftArguments$Sightings" "number" "I"] : List Cond) ++ wsX90)
set_option maxHeartbeats 4000000 in
set_option maxRecDepth 100000 in
theorem k_X9_number (l : Launch) (dC : Nat → ClassId) (dI : Nat → Nat → Nat) (h0 : Nat) (r0 : Nat) (r1 : Nat) (r2 : Nat) (r3 : Nat) (r4 : Nat) (r5 : Nat) (r6 : Nat) (r7 : Nat) (v0 : Int32) (i_v0 : 0 ≤ v0.toInt ∧ v0.toInt ≤ 10) (sz : Nat) : Met l yX9_number q_X9_number ({ frames := 0, cells := 0, slots := 0, locals := 0 }) (va_Pc [.ref h0] (fun U => U.heap.size = sz ∧ va_P (dC, dI) vwCl (wd_076c5019 h0 r0 r1 r2 r3 r4 r5 r6 r7 v0) U.heap ∧ va_K (dC, dI) vwCl [] U ∧ va_D (fun _ => True) (wd_076c5019 h0 r0 r1 r2 r3 r4 r5 r6 r7 v0))) (va_Qi (fun (r : Int32) (_ : Unit) => 0 ≤ r.toInt ∧ r.toInt ≤ 10) (fun (_ : Unit) (t : State) => va_P (dC, dI) vwCl (wd_076c5019 h0 r0 r1 r2 r3 r4 r5 r6 r7 v0) t.heap ∧ va_K (dC, dI) vwCl [] t ∧ va_D (va_A (wd_076c5019 h0 r0 r1 r2 r3 r4 r5 r6 r7 v0) sz) (wd_076c5019 h0 r0 r1 r2 r3 r4 r5 r6 r7 v0)) (va_A (wd_076c5019 h0 r0 r1 r2 r3 r4 r5 r6 r7 v0) sz)) 0 0 (va_A (wd_076c5019 h0 r0 r1 r2 r3 r4 r5 r6 r7 v0) sz) := by
  refine Met.ofW (cc := cX9_number) (maxL := 1) (ret := (some .int)) (by decide) rfl ?_
  intro p e s m args below meth c s₁ B hml hv
  obtain ⟨i_v0a, i_v0b⟩ := i_v0
  obtain ⟨rfl, hsz, hP, hK, hD0⟩ := hv
  have hx := B.exec
  have hb := B.bytes
  have hr := B.returns
  have hts := atoms_spec (ws := q_X9_number) B.pre
  have hown : s.vm.findClass RX9 = some m.cls := findClass_of_methodNamed B.named
  have hlocks := B.notSynchronized
  subst hsz
  have hD := hD0.self (sz := s.heap.size)
  generalize hAe : va_A (wd_076c5019 h0 r0 r1 r2 r3 r4 r5 r6 r7 v0) s.heap.size = A at hD ⊢
  have hA : ∀ q : Nat, s.heap.size ≤ q → A q := fun q h => by rw [← hAe]; exact Or.inr h
  have hS : va_S A s.heap s.heap [] := va_S.rf
  generalize hQ : (MQ below _ _ s 0 0 A) = Q
  have hl := lv_entry ([.ref h0]) (n := 1) (Nat.le_of_ble_eq_true rfl)
  rw [lg_entry_eq]
  generalize (lg_sl ([.ref h0]) ++ List.replicate (1 - (lg_sl ([.ref h0])).length) Slot.unset).toArray = ls at hl ⊢
  have hl : lv_has ls 1 [(0, .ref h0)] := hl
  obtain ⟨H, hH⟩ : ∃ H : Heap, H = s.heap := ⟨_, rfl⟩
  obtain ⟨locs, hlocs⟩ : ∃ y : List Loc, y = [] := ⟨_, rfl⟩
  have hS : va_S A s.heap H locs := by rw [hH, hlocs]; exact va_S.rf
  have hP : va_P (dC, dI) vwCl (wd_076c5019 h0 r0 r1 r2 r3 r4 r5 r6 r7 v0) H := by rw [hH]; exact hP
  rw [← hH, ← hlocs]
  refine lv_aload_n hx hb dX9_number_0 rfl (lv_at hl 0 rfl) ?_
  refine va_get (D := (dC, dI)) (ci := 9) (v := .int v0) (C := RX9) (T := TX9) (N := 9) hx hb hts (fun _ h => List.mem_cons_of_mem _ (List.mem_append_right _ h)) hown hK hP 0 rfl rfl 8 (by decide) (hts (.fieldLink RX9 35 "LeftArguments$Sightings" "number" "I") (List.mem_cons_of_mem _ (List.mem_append_left _ (List.mem_of_getElem? (i := 0) rfl)))) (fun _ h9 => h9) rfl dX9_number_1 ?_
  subst hQ
  have hP9 := hP.sub (ws' := (wd_076c5019 h0 r0 r1 r2 r3 r4 r5 r6 r7 v0)) [0] rfl
  have hD9 := hD.sub (ws' := (wd_076c5019 h0 r0 r1 r2 r3 r4 r5 r6 r7 v0)) [0] (by decide) rfl
  have hK9 := hK.sub (tys' := []) [] rfl
  exact W.iret (v := v0) hx hb hr (fun t ht hW => ⟨⟨v0, (), rfl, ⟨by first | omega | decide, by first | omega | decide⟩, by rw [ht]; exact hP9, va_K.moved hW.alike hK9, hD9⟩, hS.F ht⟩) hS.2.2 dX9_number_4
def q_X0_forget : List Cond := .code yX0_forget cX0_forget 1 none :: (([.fieldLink RX0 19 "LeftArguments$Acts" "number" "I"] : List Cond) ++ wsX00)
set_option maxHeartbeats 4000000 in
set_option maxRecDepth 100000 in
theorem k_X0_forget (l : Launch) (dC : Nat → ClassId) (dI : Nat → Nat → Nat) (h0 : Nat) (r0 : Nat) (v0 : Int32) (v1 : Int32) (i_v0 : 0 ≤ v0.toInt ∧ v0.toInt ≤ 39) (i_v1 : 0 ≤ v1.toInt ∧ v1.toInt ≤ 40) (sz : Nat) : Met l yX0_forget q_X0_forget ({ frames := 0, cells := 0, slots := 0, locals := 0 }) (va_Pc [.ref h0] (fun U => U.heap.size = sz ∧ va_P (dC, dI) vwCl (wd_1aefb835 h0 r0 v0 v1) U.heap ∧ va_K (dC, dI) vwCl [] U ∧ va_D (fun _ => True) (wd_1aefb835 h0 r0 v0 v1))) (va_Qv (fun (_ : Unit) => True) (fun (_ : Unit) (t : State) => ∃ (o_h0_2 : Int32), 0 ≤ o_h0_2.toInt ∧ o_h0_2.toInt ≤ 40 ∧ va_P (dC, dI) vwCl (wd_1aefb835 h0 r0 v0 o_h0_2) t.heap ∧ va_K (dC, dI) vwCl [] t ∧ va_D (va_A (wd_1aefb835 h0 r0 v0 v1) sz) (wd_1aefb835 h0 r0 v0 o_h0_2)) (va_A (wd_1aefb835 h0 r0 v0 v1) sz)) 0 0 (va_A (wd_1aefb835 h0 r0 v0 v1) sz) := by
  refine Met.ofW (cc := cX0_forget) (maxL := 1) (ret := none) (by decide) rfl ?_
  intro p e s m args below meth c s₁ B hml hv
  obtain ⟨i_v0a, i_v0b⟩ := i_v0
  obtain ⟨i_v1a, i_v1b⟩ := i_v1
  obtain ⟨rfl, hsz, hP, hK, hD0⟩ := hv
  have hx := B.exec
  have hb := B.bytes
  have hr := B.returns
  have hts := atoms_spec (ws := q_X0_forget) B.pre
  have hown : s.vm.findClass RX0 = some m.cls := findClass_of_methodNamed B.named
  have hlocks := B.notSynchronized
  subst hsz
  have hD := hD0.self (sz := s.heap.size)
  generalize hAe : va_A (wd_1aefb835 h0 r0 v0 v1) s.heap.size = A at hD ⊢
  have hA : ∀ q : Nat, s.heap.size ≤ q → A q := fun q h => by rw [← hAe]; exact Or.inr h
  have hS : va_S A s.heap s.heap [] := va_S.rf
  generalize hQ : (MQ below _ _ s 0 0 A) = Q
  have hl := lv_entry ([.ref h0]) (n := 1) (Nat.le_of_ble_eq_true rfl)
  rw [lg_entry_eq]
  generalize (lg_sl ([.ref h0]) ++ List.replicate (1 - (lg_sl ([.ref h0])).length) Slot.unset).toArray = ls at hl ⊢
  have hl : lv_has ls 1 [(0, .ref h0)] := hl
  obtain ⟨H, hH⟩ : ∃ H : Heap, H = s.heap := ⟨_, rfl⟩
  obtain ⟨locs, hlocs⟩ : ∃ y : List Loc, y = [] := ⟨_, rfl⟩
  have hS : va_S A s.heap H locs := by rw [hH, hlocs]; exact va_S.rf
  have hP : va_P (dC, dI) vwCl (wd_1aefb835 h0 r0 v0 v1) H := by rw [hH]; exact hP
  rw [← hH, ← hlocs]
  refine lv_aload_n hx hb dX0_forget_0 rfl (lv_at hl 0 rfl) ?_
  refine lv_iconst (v := 0) hx hb dX0_forget_1 (by decide) ?_
  refine va_put (D := (dC, dI)) (ci := 0) (v := .int 0) (ty := .int) (C := RX0) (T := TX0) (N := 3) hx hb hts (fun _ h => List.mem_cons_of_mem _ (List.mem_append_right _ h)) tyX0 tyX0_ok nmX0 hown hK hP hD hS 0 rfl rfl 2 (by decide) (hts (.fieldLink RX0 19 "LeftArguments$Acts" "number" "I") (List.mem_cons_of_mem _ (List.mem_append_left _ (List.mem_of_getElem? (i := 0) rfl)))) (fun _ h9 => h9) rfl (by decide +kernel) rfl rfl (Nat.le_of_ble_eq_true rfl) dX0_forget_2 (fun H locs hP hD hS => ?_)
  have hP : va_P (dC, dI) vwCl (wd_1aefb835 h0 r0 v0 0) H := hP
  have hD : va_D A (wd_1aefb835 h0 r0 v0 0) := hD
  subst hQ
  have hP9 := hP.sub (ws' := (wd_1aefb835 h0 r0 v0 0)) [0] rfl
  have hD9 := hD.sub (ws' := (wd_1aefb835 h0 r0 v0 0)) [0] (by decide) rfl
  have hK9 := hK.sub (tys' := []) [] rfl
  exact W.vret hx hb hr (fun t ht hW => ⟨⟨(), rfl, trivial, 0, by decide, by decide, by rw [ht]; exact hP9, va_K.moved hW.alike hK9, hD9⟩, hS.F ht⟩) hS.2.2 dX0_forget_5
def q_X1_lengthOn : List Cond := .code yX1_lengthOn cX1_lengthOn 1 (some .int) :: (([.methodLink RX1 25 Lib.Math.min.name, .static Lib.Math.min.name, .initialized "java/lang/Math", .code Lib.Math.min.name Lib.Math.min.code 2 (some .int)] : List Cond))
set_option maxHeartbeats 4000000 in
set_option maxRecDepth 100000 in
theorem k_X1_lengthOn (l : Launch) (dC : Nat → ClassId) (dI : Nat → Nat → Nat) (v0 : Int32) (sz : Nat) : Met l yX1_lengthOn q_X1_lengthOn ({ frames := 1, cells := 0, slots := 0, locals := 13 }) (va_Pc [.int v0] (fun U => U.heap.size = sz ∧ va_P (dC, dI) vwCl [] U.heap ∧ va_K (dC, dI) vwCl [] U ∧ va_D (fun _ => True) [])) (va_Qi (fun (r : Int32) (_ : Unit) => r.toInt ≤ 60) (fun (_ : Unit) (t : State) => va_P (dC, dI) vwCl [] t.heap ∧ va_K (dC, dI) vwCl [] t ∧ va_D (va_A [] sz) []) (va_A [] sz)) 0 0 (va_A [] sz) := by
  refine Met.ofW (cc := cX1_lengthOn) (maxL := 1) (ret := (some .int)) (by decide) rfl ?_
  intro p e s m args below meth c s₁ B hml hv
  obtain ⟨rfl, hsz, hP, hK, hD0⟩ := hv
  have hx := B.exec
  have hb := B.bytes
  have hr := B.returns
  have hts := atoms_spec (ws := q_X1_lengthOn) B.pre
  have hown : s.vm.findClass RX1 = some m.cls := findClass_of_methodNamed B.named
  have hlocks := B.notSynchronized
  subst hsz
  have hD := hD0.self (sz := s.heap.size)
  generalize hAe : va_A [] s.heap.size = A at hD ⊢
  have hA : ∀ q : Nat, s.heap.size ≤ q → A q := fun q h => by rw [← hAe]; exact Or.inr h
  have hS : va_S A s.heap s.heap [] := va_S.rf
  generalize hQ : (MQ below _ _ s 0 0 A) = Q
  have hl := lv_entry ([.int v0]) (n := 1) (Nat.le_of_ble_eq_true rfl)
  rw [lg_entry_eq]
  generalize (lg_sl ([.int v0]) ++ List.replicate (1 - (lg_sl ([.int v0])).length) Slot.unset).toArray = ls at hl ⊢
  have hl : lv_has ls 1 [(0, .int v0)] := hl
  obtain ⟨H, hH⟩ : ∃ H : Heap, H = s.heap := ⟨_, rfl⟩
  obtain ⟨locs, hlocs⟩ : ∃ y : List Loc, y = [] := ⟨_, rfl⟩
  have hS : va_S A s.heap H locs := by rw [hH, hlocs]; exact va_S.rf
  have hP : va_P (dC, dI) vwCl [] H := by rw [hH]; exact hP
  rw [← hH, ← hlocs]
  refine lv_iload_n hx hb dX1_lengthOn_0 rfl (lv_at hl 0 rfl) ?_
  refine lv_bipush (v := 60) hx hb dX1_lengthOn_1 (by decide) ?_
  refine va_mmin hx hb (by rw [hml]; exact hl.1.symm) hown (hts (.methodLink RX1 25 Lib.Math.min.name) (List.mem_cons_of_mem _ (List.mem_of_getElem? (i := 0) rfl))) (hts (.static Lib.Math.min.name) (List.mem_cons_of_mem _ (List.mem_of_getElem? (i := 1) rfl))) (hts (.initialized "java/lang/Math") (List.mem_cons_of_mem _ (List.mem_of_getElem? (i := 2) rfl))) (hts (.code Lib.Math.min.name Lib.Math.min.code 2 (some .int)) (List.mem_cons_of_mem _ (List.mem_of_getElem? (i := 3) rfl))) (Nat.le_of_ble_eq_true rfl) (Nat.le_of_ble_eq_true rfl) (Nat.le_of_ble_eq_true rfl) (Nat.le_of_ble_eq_true rfl) dX1_lengthOn_3 ?_
  refine lv_topi (fun t1 et1 => ?_)
  obtain ⟨gat1, gbt1, gct1⟩ := pv_min (a := v0.toInt) (b := 60) et1 rfl (by decide)
  subst hQ
  have hP9 := hP.sub (ws' := []) [] rfl
  have hD9 := hD.sub (ws' := []) [] (by decide) rfl
  have hK9 := hK.sub (tys' := []) [] rfl
  exact W.iret (v := t1) hx hb hr (fun t ht hW => ⟨⟨t1, (), rfl, by first | omega | decide, by rw [ht]; exact hP9, va_K.moved hW.alike hK9, hD9⟩, hS.F ht⟩) hS.2.2 dX1_lengthOn_6
def q_X9_forget : List Cond := .code yX9_forget cX9_forget 1 none :: (([.fieldLink RX9 35 "LeftArguments$Sightings" "number" "I"] : List Cond) ++ wsX90)
set_option maxHeartbeats 4000000 in
set_option maxRecDepth 100000 in
theorem k_X9_forget (l : Launch) (dC : Nat → ClassId) (dI : Nat → Nat → Nat) (h0 : Nat) (r0 : Nat) (r1 : Nat) (r2 : Nat) (r3 : Nat) (r4 : Nat) (r5 : Nat) (r6 : Nat) (r7 : Nat) (v0 : Int32) (i_v0 : 0 ≤ v0.toInt ∧ v0.toInt ≤ 10) (sz : Nat) : Met l yX9_forget q_X9_forget ({ frames := 0, cells := 0, slots := 0, locals := 0 }) (va_Pc [.ref h0] (fun U => U.heap.size = sz ∧ va_P (dC, dI) vwCl (wd_076c5019 h0 r0 r1 r2 r3 r4 r5 r6 r7 v0) U.heap ∧ va_K (dC, dI) vwCl [] U ∧ va_D (fun _ => True) (wd_076c5019 h0 r0 r1 r2 r3 r4 r5 r6 r7 v0))) (va_Qv (fun (_ : Unit) => True) (fun (_ : Unit) (t : State) => ∃ (o_h0_8 : Int32), 0 ≤ o_h0_8.toInt ∧ o_h0_8.toInt ≤ 10 ∧ va_P (dC, dI) vwCl (wd_076c5019 h0 r0 r1 r2 r3 r4 r5 r6 r7 o_h0_8) t.heap ∧ va_K (dC, dI) vwCl [] t ∧ va_D (va_A (wd_076c5019 h0 r0 r1 r2 r3 r4 r5 r6 r7 v0) sz) (wd_076c5019 h0 r0 r1 r2 r3 r4 r5 r6 r7 o_h0_8)) (va_A (wd_076c5019 h0 r0 r1 r2 r3 r4 r5 r6 r7 v0) sz)) 0 0 (va_A (wd_076c5019 h0 r0 r1 r2 r3 r4 r5 r6 r7 v0) sz) := by
  refine Met.ofW (cc := cX9_forget) (maxL := 1) (ret := none) (by decide) rfl ?_
  intro p e s m args below meth c s₁ B hml hv
  obtain ⟨i_v0a, i_v0b⟩ := i_v0
  obtain ⟨rfl, hsz, hP, hK, hD0⟩ := hv
  have hx := B.exec
  have hb := B.bytes
  have hr := B.returns
  have hts := atoms_spec (ws := q_X9_forget) B.pre
  have hown : s.vm.findClass RX9 = some m.cls := findClass_of_methodNamed B.named
  have hlocks := B.notSynchronized
  subst hsz
  have hD := hD0.self (sz := s.heap.size)
  generalize hAe : va_A (wd_076c5019 h0 r0 r1 r2 r3 r4 r5 r6 r7 v0) s.heap.size = A at hD ⊢
  have hA : ∀ q : Nat, s.heap.size ≤ q → A q := fun q h => by rw [← hAe]; exact Or.inr h
  have hS : va_S A s.heap s.heap [] := va_S.rf
  generalize hQ : (MQ below _ _ s 0 0 A) = Q
  have hl := lv_entry ([.ref h0]) (n := 1) (Nat.le_of_ble_eq_true rfl)
  rw [lg_entry_eq]
  generalize (lg_sl ([.ref h0]) ++ List.replicate (1 - (lg_sl ([.ref h0])).length) Slot.unset).toArray = ls at hl ⊢
  have hl : lv_has ls 1 [(0, .ref h0)] := hl
  obtain ⟨H, hH⟩ : ∃ H : Heap, H = s.heap := ⟨_, rfl⟩
  obtain ⟨locs, hlocs⟩ : ∃ y : List Loc, y = [] := ⟨_, rfl⟩
  have hS : va_S A s.heap H locs := by rw [hH, hlocs]; exact va_S.rf
  have hP : va_P (dC, dI) vwCl (wd_076c5019 h0 r0 r1 r2 r3 r4 r5 r6 r7 v0) H := by rw [hH]; exact hP
  rw [← hH, ← hlocs]
  refine lv_aload_n hx hb dX9_forget_0 rfl (lv_at hl 0 rfl) ?_
  refine lv_iconst (v := 0) hx hb dX9_forget_1 (by decide) ?_
  refine va_put (D := (dC, dI)) (ci := 9) (v := .int 0) (ty := .int) (C := RX9) (T := TX9) (N := 9) hx hb hts (fun _ h => List.mem_cons_of_mem _ (List.mem_append_right _ h)) tyX9 tyX9_ok nmX9 hown hK hP hD hS 0 rfl rfl 8 (by decide) (hts (.fieldLink RX9 35 "LeftArguments$Sightings" "number" "I") (List.mem_cons_of_mem _ (List.mem_append_left _ (List.mem_of_getElem? (i := 0) rfl)))) (fun _ h9 => h9) rfl (by decide +kernel) rfl rfl (Nat.le_of_ble_eq_true rfl) dX9_forget_2 (fun H locs hP hD hS => ?_)
  have hP : va_P (dC, dI) vwCl (wd_076c5019 h0 r0 r1 r2 r3 r4 r5 r6 r7 0) H := hP
  have hD : va_D A (wd_076c5019 h0 r0 r1 r2 r3 r4 r5 r6 r7 0) := hD
  subst hQ
  have hP9 := hP.sub (ws' := (wd_076c5019 h0 r0 r1 r2 r3 r4 r5 r6 r7 0)) [0] rfl
  have hD9 := hD.sub (ws' := (wd_076c5019 h0 r0 r1 r2 r3 r4 r5 r6 r7 0)) [0] (by decide) rfl
  have hK9 := hK.sub (tys' := []) [] rfl
  exact W.vret hx hb hr (fun t ht hW => ⟨⟨(), rfl, trivial, 0, by decide, by decide, by rw [ht]; exact hP9, va_K.moved hW.alike hK9, hD9⟩, hS.F ht⟩) hS.2.2 dX9_forget_5
def q_X10_wrong : List Cond := .code yX10_wrong cX10_wrong 2 (some .boolean) :: (([.fieldLink RX10 22 "LeftArguments$Tape" "wrongAt" "I"] : List Cond) ++ wsX100)
set_option maxHeartbeats 4000000 in
set_option maxRecDepth 100000 in
theorem k_X10_wrong (l : Launch) (dC : Nat → ClassId) (dI : Nat → Nat → Nat) (h0 : Nat) (r0 : Nat) (v0 : Int32) (v1 : Int32) (v2 : Int32) (v3 : Int32) (v4 : Int32) (i_v0 : 0 ≤ v0.toInt ∧ v0.toInt ≤ 240) (sz : Nat) : Met l yX10_wrong q_X10_wrong ({ frames := 0, cells := 0, slots := 0, locals := 0 }) (va_Pc [.ref h0, .int v4] (fun U => U.heap.size = sz ∧ va_P (dC, dI) vwCl (wd_09b0abee h0 r0 v0 v1 v2 v3) U.heap ∧ va_K (dC, dI) vwCl [] U ∧ va_D (fun _ => True) (wd_09b0abee h0 r0 v0 v1 v2 v3))) (va_Qi (fun (r : Int32) (r9 : Int32) => r9 = r) (fun (r : Int32) (t : State) => (∃ (o_h0_3 : Int32), (0 ≤ r.toInt) ∧ (r.toInt ≤ 0) ∧ (o_h0_3.toInt = v4.toInt) ∧ va_P (dC, dI) vwCl (wd_09b0abee h0 r0 v0 v1 o_h0_3 v3) t.heap ∧ va_K (dC, dI) vwCl [] t ∧ va_D (va_A (wd_09b0abee h0 r0 v0 v1 v2 v3) sz) (wd_09b0abee h0 r0 v0 v1 o_h0_3 v3))) (va_A (wd_09b0abee h0 r0 v0 v1 v2 v3) sz)) 0 0 (va_A (wd_09b0abee h0 r0 v0 v1 v2 v3) sz) := by
  refine Met.ofW (cc := cX10_wrong) (maxL := 2) (ret := (some .boolean)) (by decide) rfl ?_
  intro p e s m args below meth c s₁ B hml hv
  obtain ⟨i_v0a, i_v0b⟩ := i_v0
  obtain ⟨rfl, hsz, hP, hK, hD0⟩ := hv
  have hx := B.exec
  have hb := B.bytes
  have hr := B.returns
  have hts := atoms_spec (ws := q_X10_wrong) B.pre
  have hown : s.vm.findClass RX10 = some m.cls := findClass_of_methodNamed B.named
  have hlocks := B.notSynchronized
  subst hsz
  have hD := hD0.self (sz := s.heap.size)
  generalize hAe : va_A (wd_09b0abee h0 r0 v0 v1 v2 v3) s.heap.size = A at hD ⊢
  have hA : ∀ q : Nat, s.heap.size ≤ q → A q := fun q h => by rw [← hAe]; exact Or.inr h
  have hS : va_S A s.heap s.heap [] := va_S.rf
  generalize hQ : (MQ below _ _ s 0 0 A) = Q
  have hl := lv_entry ([.ref h0, .int v4]) (n := 2) (Nat.le_of_ble_eq_true rfl)
  rw [lg_entry_eq]
  generalize (lg_sl ([.ref h0, .int v4]) ++ List.replicate (2 - (lg_sl ([.ref h0, .int v4])).length) Slot.unset).toArray = ls at hl ⊢
  have hl : lv_has ls 2 [(0, .ref h0), (1, .int v4)] := hl
  obtain ⟨H, hH⟩ : ∃ H : Heap, H = s.heap := ⟨_, rfl⟩
  obtain ⟨locs, hlocs⟩ : ∃ y : List Loc, y = [] := ⟨_, rfl⟩
  have hS : va_S A s.heap H locs := by rw [hH, hlocs]; exact va_S.rf
  have hP : va_P (dC, dI) vwCl (wd_09b0abee h0 r0 v0 v1 v2 v3) H := by rw [hH]; exact hP
  rw [← hH, ← hlocs]
  refine lv_aload_n hx hb dX10_wrong_0 rfl (lv_at hl 0 rfl) ?_
  refine lv_iload_n hx hb dX10_wrong_1 rfl (lv_at hl 1 rfl) ?_
  refine va_put (D := (dC, dI)) (ci := 10) (v := .int v4) (ty := .int) (C := RX10) (T := TX10) (N := 5) hx hb hts (fun _ h => List.mem_cons_of_mem _ (List.mem_append_right _ h)) tyX10 tyX10_ok nmX10 hown hK hP hD hS 0 rfl rfl 3 (by decide) (hts (.fieldLink RX10 22 "LeftArguments$Tape" "wrongAt" "I") (List.mem_cons_of_mem _ (List.mem_append_left _ (List.mem_of_getElem? (i := 0) rfl)))) (fun _ h9 => h9) rfl (by decide +kernel) rfl rfl (Nat.le_of_ble_eq_true rfl) dX10_wrong_2 (fun H locs hP hD hS => ?_)
  have hP : va_P (dC, dI) vwCl (wd_09b0abee h0 r0 v0 v1 v4 v3) H := hP
  have hD : va_D A (wd_09b0abee h0 r0 v0 v1 v4 v3) := hD
  refine lv_iconst (v := 0) hx hb dX10_wrong_5 (by decide) ?_
  subst hQ
  have hP9 := hP.sub (ws' := (wd_09b0abee h0 r0 v0 v1 v4 v3)) [0] rfl
  have hD9 := hD.sub (ws' := (wd_09b0abee h0 r0 v0 v1 v4 v3)) [0] (by decide) rfl
  have hK9 := hK.sub (tys' := []) [] rfl
  exact W.zret (v := 0) hx hb hr rfl (fun t ht hW => ⟨⟨0, 0, rfl, rfl, ⟨v4, by first | omega | decide, by first | omega | decide, by rfl, by rw [ht]; exact hP9, va_K.moved hW.alike hK9, hD9⟩⟩, hS.F ht⟩) hS.2.2 dX10_wrong_6
def q_X4_choose : List Cond := .code yX4_choose cX4_choose 2 (some .boolean) :: (([.fieldLink RX4 28 "LeftArguments$Laws" "number" "I", .fieldLink RX4 32 "LeftArguments$Laws" "chosen" "I"] : List Cond) ++ wsX40)
set_option maxHeartbeats 4000000 in
set_option maxRecDepth 100000 in
theorem k_X4_choose (l : Launch) (dC : Nat → ClassId) (dI : Nat → Nat → Nat) (h0 : Nat) (r0 : Nat) (r1 : Nat) (r2 : Nat) (r3 : Nat) (v0 : Int32) (v1 : Int32) (v2 : Int32) (i_v0 : 0 ≤ v0.toInt ∧ v0.toInt ≤ 4) (sz : Nat) : Met l yX4_choose q_X4_choose ({ frames := 0, cells := 0, slots := 0, locals := 0 }) (va_Pc [.ref h0, .int v2] (fun U => U.heap.size = sz ∧ va_P (dC, dI) vwCl (wd_1cbc56ec h0 r0 r1 r2 r3 v0 v1) U.heap ∧ va_K (dC, dI) vwCl [] U ∧ va_D (fun _ => True) (wd_1cbc56ec h0 r0 r1 r2 r3 v0 v1))) (va_Qi (fun (r : Int32) (r9 : Int32) => r9 = r) (fun (r : Int32) (t : State) => (∃ (o_h0_5 : Int32), (0 ≤ r.toInt) ∧ (r.toInt ≤ 1) ∧ ((r.toInt = 1 ∧ -1 ≤ v2.toInt ∧ v2.toInt < v0.toInt) ∨ (r.toInt = 0 ∧ ¬ (-1 ≤ v2.toInt ∧ v2.toInt < v0.toInt))) ∧ va_P (dC, dI) vwCl (wd_1cbc56ec h0 r0 r1 r2 r3 v0 o_h0_5) t.heap ∧ va_K (dC, dI) vwCl [] t ∧ va_D (va_A (wd_1cbc56ec h0 r0 r1 r2 r3 v0 v1) sz) (wd_1cbc56ec h0 r0 r1 r2 r3 v0 o_h0_5))) (va_A (wd_1cbc56ec h0 r0 r1 r2 r3 v0 v1) sz)) 0 0 (va_A (wd_1cbc56ec h0 r0 r1 r2 r3 v0 v1) sz) := by
  refine Met.ofW (cc := cX4_choose) (maxL := 2) (ret := (some .boolean)) (by decide) rfl ?_
  intro p e s m args below meth c s₁ B hml hv
  obtain ⟨i_v0a, i_v0b⟩ := i_v0
  obtain ⟨rfl, hsz, hP, hK, hD0⟩ := hv
  have hx := B.exec
  have hb := B.bytes
  have hr := B.returns
  have hts := atoms_spec (ws := q_X4_choose) B.pre
  have hown : s.vm.findClass RX4 = some m.cls := findClass_of_methodNamed B.named
  have hlocks := B.notSynchronized
  subst hsz
  have hD := hD0.self (sz := s.heap.size)
  generalize hAe : va_A (wd_1cbc56ec h0 r0 r1 r2 r3 v0 v1) s.heap.size = A at hD ⊢
  have hA : ∀ q : Nat, s.heap.size ≤ q → A q := fun q h => by rw [← hAe]; exact Or.inr h
  have hS : va_S A s.heap s.heap [] := va_S.rf
  generalize hQ : (MQ below _ _ s 0 0 A) = Q
  have hl := lv_entry ([.ref h0, .int v2]) (n := 2) (Nat.le_of_ble_eq_true rfl)
  rw [lg_entry_eq]
  generalize (lg_sl ([.ref h0, .int v2]) ++ List.replicate (2 - (lg_sl ([.ref h0, .int v2])).length) Slot.unset).toArray = ls at hl ⊢
  have hl : lv_has ls 2 [(0, .ref h0), (1, .int v2)] := hl
  obtain ⟨H, hH⟩ : ∃ H : Heap, H = s.heap := ⟨_, rfl⟩
  obtain ⟨locs, hlocs⟩ : ∃ y : List Loc, y = [] := ⟨_, rfl⟩
  have hS : va_S A s.heap H locs := by rw [hH, hlocs]; exact va_S.rf
  have hP : va_P (dC, dI) vwCl (wd_1cbc56ec h0 r0 r1 r2 r3 v0 v1) H := by rw [hH]; exact hP
  rw [← hH, ← hlocs]
  refine lv_iload_n hx hb dX4_choose_0 rfl (lv_at hl 1 rfl) ?_
  refine lv_iconst (v := (-1)) hx hb dX4_choose_1 (by decide) ?_
  refine lv_icmp_lt (tgt := 13) hx hb dX4_choose_2 (by decide) (fun c1 => ?_) (fun c1 => ?_)
  · skip
    have fc1 : v2.toInt < (-1) := Int32.lt_iff_toInt_lt.mp c1
    refine lv_iconst (v := 0) hx hb dX4_choose_13 (by decide) ?_
    subst hQ
    have hP9 := hP.sub (ws' := (wd_1cbc56ec h0 r0 r1 r2 r3 v0 v1)) [0] rfl
    have hD9 := hD.sub (ws' := (wd_1cbc56ec h0 r0 r1 r2 r3 v0 v1)) [0] (by decide) rfl
    have hK9 := hK.sub (tys' := []) [] rfl
    exact W.zret (v := 0) hx hb hr rfl (fun t ht hW => ⟨⟨0, 0, rfl, rfl, ⟨v1, by first | omega | decide, by first | omega | decide, by first | assumption | exact Or.inl ⟨by decide, by omega, by omega⟩ | exact Or.inr ⟨by decide, by omega⟩, by rw [ht]; exact hP9, va_K.moved hW.alike hK9, hD9⟩⟩, hS.F ht⟩) hS.2.2 dX4_choose_14
  · skip
    have fc1 : ¬ (v2.toInt < (-1)) := fun h9 => c1 (Int32.lt_iff_toInt_lt.mpr h9)
    refine lv_iload_n hx hb dX4_choose_5 rfl (lv_at hl 1 rfl) ?_
    refine lv_aload_n hx hb dX4_choose_6 rfl (lv_at hl 0 rfl) ?_
    refine va_get (D := (dC, dI)) (ci := 4) (v := .int v0) (C := RX4) (T := TX4) (N := 6) hx hb hts (fun _ h => List.mem_cons_of_mem _ (List.mem_append_right _ h)) hown hK hP 0 rfl rfl 4 (by decide) (hts (.fieldLink RX4 28 "LeftArguments$Laws" "number" "I") (List.mem_cons_of_mem _ (List.mem_append_left _ (List.mem_of_getElem? (i := 0) rfl)))) (fun _ h9 => h9) rfl dX4_choose_7 ?_
    refine lv_icmp_lt (tgt := 15) hx hb dX4_choose_10 (by decide) (fun c2 => ?_) (fun c2 => ?_)
    · skip
      have fc2 : v2.toInt < v0.toInt := Int32.lt_iff_toInt_lt.mp c2
      have r1c2 := Int32.toInt_lt v2
      have r2c2 := Int32.toInt_lt v0
      have r3c2 := Int32.le_toInt v2
      have r4c2 := Int32.le_toInt v0
      refine lv_aload_n hx hb dX4_choose_15 rfl (lv_at hl 0 rfl) ?_
      refine lv_iload_n hx hb dX4_choose_16 rfl (lv_at hl 1 rfl) ?_
      refine va_put (D := (dC, dI)) (ci := 4) (v := .int v2) (ty := .int) (C := RX4) (T := TX4) (N := 6) hx hb hts (fun _ h => List.mem_cons_of_mem _ (List.mem_append_right _ h)) tyX4 tyX4_ok nmX4 hown hK hP hD hS 0 rfl rfl 5 (by decide) (hts (.fieldLink RX4 32 "LeftArguments$Laws" "chosen" "I") (List.mem_cons_of_mem _ (List.mem_append_left _ (List.mem_of_getElem? (i := 1) rfl)))) (fun _ h9 => h9) rfl (by decide +kernel) rfl rfl (Nat.le_of_ble_eq_true rfl) dX4_choose_17 (fun H locs hP hD hS => ?_)
      have hP : va_P (dC, dI) vwCl (wd_1cbc56ec h0 r0 r1 r2 r3 v0 v2) H := hP
      have hD : va_D A (wd_1cbc56ec h0 r0 r1 r2 r3 v0 v2) := hD
      refine lv_iconst (v := 1) hx hb dX4_choose_20 (by decide) ?_
      subst hQ
      have hP9 := hP.sub (ws' := (wd_1cbc56ec h0 r0 r1 r2 r3 v0 v2)) [0] rfl
      have hD9 := hD.sub (ws' := (wd_1cbc56ec h0 r0 r1 r2 r3 v0 v2)) [0] (by decide) rfl
      have hK9 := hK.sub (tys' := []) [] rfl
      exact W.zret (v := 1) hx hb hr rfl (fun t ht hW => ⟨⟨1, 1, rfl, rfl, ⟨v2, by first | omega | decide, by first | omega | decide, by first | assumption | exact Or.inl ⟨by decide, by omega, by omega⟩ | exact Or.inr ⟨by decide, by omega⟩, by rw [ht]; exact hP9, va_K.moved hW.alike hK9, hD9⟩⟩, hS.F ht⟩) hS.2.2 dX4_choose_21
    · skip
      have fc2 : ¬ (v2.toInt < v0.toInt) := fun h9 => c2 (Int32.lt_iff_toInt_lt.mpr h9)
      have r1c2 := Int32.toInt_lt v2
      have r2c2 := Int32.toInt_lt v0
      have r3c2 := Int32.le_toInt v2
      have r4c2 := Int32.le_toInt v0
      refine lv_iconst (v := 0) hx hb dX4_choose_13 (by decide) ?_
      subst hQ
      have hP9 := hP.sub (ws' := (wd_1cbc56ec h0 r0 r1 r2 r3 v0 v1)) [0] rfl
      have hD9 := hD.sub (ws' := (wd_1cbc56ec h0 r0 r1 r2 r3 v0 v1)) [0] (by decide) rfl
      have hK9 := hK.sub (tys' := []) [] rfl
      exact W.zret (v := 0) hx hb hr rfl (fun t ht hW => ⟨⟨0, 0, rfl, rfl, ⟨v1, by first | omega | decide, by first | omega | decide, by first | assumption | exact Or.inl ⟨by decide, by omega, by omega⟩ | exact Or.inr ⟨by decide, by omega⟩, by rw [ht]; exact hP9, va_K.moved hW.alike hK9, hD9⟩⟩, hS.F ht⟩) hS.2.2 dX4_choose_14
def q_X11_law : List Cond := .code yX11_law cX11_law 2 (some .boolean) :: (([.fieldLink RX11 35 "LeftArguments" "laws" "LLeftArguments$Laws;", .code yX4_choose cX4_choose 2 (some .boolean), .fieldLink RX4 28 "LeftArguments$Laws" "number" "I", .fieldLink RX4 32 "LeftArguments$Laws" "chosen" "I", .initialized RX4, .instanceMethod yX4_choose, .selects RX4 yX4_choose yX4_choose, .methodLink RX11 155 yX4_choose] : List Cond) ++ wsX110 ++ wsX40)
set_option maxRecDepth 20000 in
theorem g_X11_law_0 : GoodIn q_X11_law (wsV RX11 155 RX4 yX4_choose q_X4_choose) := goodIn_app (goodIn_r _ [8, 6, 7, 5] rfl (by decide +kernel)) (goodIn_ca (goodIn_r (.code yX4_choose cX4_choose 2 (some .boolean) :: [.fieldLink RX4 28 "LeftArguments$Laws" "number" "I", .fieldLink RX4 32 "LeftArguments$Laws" "chosen" "I"]) [2, 3, 4] rfl (by decide +kernel)) (goodIn_sub (fun _ h => List.mem_cons_of_mem _ (List.mem_append_right _ h)) gwX4))
set_option maxHeartbeats 4000000 in
set_option maxRecDepth 100000 in
theorem k_X11_law (l : Launch) (dC : Nat → ClassId) (dI : Nat → Nat → Nat) (h0 : Nat) (h1 : Nat) (r0 : Nat) (r1 : Nat) (r2 : Nat) (r3 : Nat) (r4 : Nat) (r5 : Nat) (r6 : Nat) (r7 : Nat) (r8 : Nat) (r9 : Nat) (r10 : Nat) (r11 : Nat) (r12 : Nat) (v0 : Int32) (v1 : Int32) (w2 : Int64) (r13 : Nat) (r14 : Nat) (r15 : Nat) (r16 : Nat) (v3 : Int32) (v4 : Int32) (v5 : Int32) (i_v0 : 0 ≤ v0.toInt ∧ v0.toInt ≤ 1) (i_v3 : 0 ≤ v3.toInt ∧ v3.toInt ≤ 4) (sz : Nat) : Met l yX11_law q_X11_law ({ frames := 1, cells := 0, slots := 0, locals := 21 }) (va_Pc [.ref h0, .int v5] (fun U => U.heap.size = sz ∧ va_P (dC, dI) vwCl (wd_ff2a762e h0 r0 r1 r2 h1 r3 r4 r5 r6 r7 r8 r9 r10 r11 r12 v0 v1 w2 h1 r13 r14 r15 r16 v3 v4) U.heap ∧ va_K (dC, dI) vwCl [] U ∧ va_D (fun _ => True) (wd_ff2a762e h0 r0 r1 r2 h1 r3 r4 r5 r6 r7 r8 r9 r10 r11 r12 v0 v1 w2 h1 r13 r14 r15 r16 v3 v4))) (va_Qi (fun (r : Int32) (r9 : Int32) => r9 = r) (fun (r : Int32) (t : State) => (∃ (o_h1_5 : Int32), (0 ≤ r.toInt) ∧ (r.toInt ≤ 1) ∧ ((r.toInt = 1 ∧ -1 ≤ v5.toInt ∧ v5.toInt < v3.toInt) ∨ (r.toInt = 0 ∧ ¬ (-1 ≤ v5.toInt ∧ v5.toInt < v3.toInt))) ∧ va_P (dC, dI) vwCl (wd_ff2a762e h0 r0 r1 r2 h1 r3 r4 r5 r6 r7 r8 r9 r10 r11 r12 v0 v1 w2 h1 r13 r14 r15 r16 v3 o_h1_5) t.heap ∧ va_K (dC, dI) vwCl [] t ∧ va_D (va_A (wd_ff2a762e h0 r0 r1 r2 h1 r3 r4 r5 r6 r7 r8 r9 r10 r11 r12 v0 v1 w2 h1 r13 r14 r15 r16 v3 v4) sz) (wd_ff2a762e h0 r0 r1 r2 h1 r3 r4 r5 r6 r7 r8 r9 r10 r11 r12 v0 v1 w2 h1 r13 r14 r15 r16 v3 o_h1_5))) (va_A (wd_ff2a762e h0 r0 r1 r2 h1 r3 r4 r5 r6 r7 r8 r9 r10 r11 r12 v0 v1 w2 h1 r13 r14 r15 r16 v3 v4) sz)) 0 0 (va_A (wd_ff2a762e h0 r0 r1 r2 h1 r3 r4 r5 r6 r7 r8 r9 r10 r11 r12 v0 v1 w2 h1 r13 r14 r15 r16 v3 v4) sz) := by
  refine Met.ofW (cc := cX11_law) (maxL := 2) (ret := (some .boolean)) (by decide) rfl ?_
  intro p e s m args below meth c s₁ B hml hv
  obtain ⟨i_v0a, i_v0b⟩ := i_v0
  obtain ⟨i_v3a, i_v3b⟩ := i_v3
  obtain ⟨rfl, hsz, hP, hK, hD0⟩ := hv
  have hx := B.exec
  have hb := B.bytes
  have hr := B.returns
  have hts := atoms_spec (ws := q_X11_law) B.pre
  have hown : s.vm.findClass RX11 = some m.cls := findClass_of_methodNamed B.named
  have hlocks := B.notSynchronized
  subst hsz
  have hD := hD0.self (sz := s.heap.size)
  generalize hAe : va_A (wd_ff2a762e h0 r0 r1 r2 h1 r3 r4 r5 r6 r7 r8 r9 r10 r11 r12 v0 v1 w2 h1 r13 r14 r15 r16 v3 v4) s.heap.size = A at hD ⊢
  have hA : ∀ q : Nat, s.heap.size ≤ q → A q := fun q h => by rw [← hAe]; exact Or.inr h
  have hS : va_S A s.heap s.heap [] := va_S.rf
  generalize hQ : (MQ below _ _ s 0 0 A) = Q
  have hl := lv_entry ([.ref h0, .int v5]) (n := 2) (Nat.le_of_ble_eq_true rfl)
  rw [lg_entry_eq]
  generalize (lg_sl ([.ref h0, .int v5]) ++ List.replicate (2 - (lg_sl ([.ref h0, .int v5])).length) Slot.unset).toArray = ls at hl ⊢
  have hl : lv_has ls 2 [(0, .ref h0), (1, .int v5)] := hl
  obtain ⟨H, hH⟩ : ∃ H : Heap, H = s.heap := ⟨_, rfl⟩
  obtain ⟨locs, hlocs⟩ : ∃ y : List Loc, y = [] := ⟨_, rfl⟩
  have hS : va_S A s.heap H locs := by rw [hH, hlocs]; exact va_S.rf
  have hP : va_P (dC, dI) vwCl (wd_ff2a762e h0 r0 r1 r2 h1 r3 r4 r5 r6 r7 r8 r9 r10 r11 r12 v0 v1 w2 h1 r13 r14 r15 r16 v3 v4) H := by rw [hH]; exact hP
  rw [← hH, ← hlocs]
  refine lv_aload_n hx hb dX11_law_0 rfl (lv_at hl 0 rfl) ?_
  refine va_get (D := (dC, dI)) (ci := 11) (v := .ref h1) (C := RX11) (T := TX11) (N := 17) hx hb hts (fun _ h => List.mem_cons_of_mem _ (List.mem_append_left _ (List.mem_append_right _ h))) hown hK hP 0 rfl rfl 3 (by decide) (hts (.fieldLink RX11 35 "LeftArguments" "laws" "LLeftArguments$Laws;") (List.mem_cons_of_mem _ (List.mem_append_left _ (List.mem_append_left _ (List.mem_of_getElem? (i := 0) rfl))))) (fun _ h9 => h9) rfl dX11_law_1 ?_
  refine lv_iload_n hx hb dX11_law_4 rfl (lv_at hl 1 rfl) ?_
  have hPc := hP.sub (ws' := (wd_1cbc56ec h1 r13 r14 r15 r16 v3 v4)) [1] rfl
  have hDc := hD.sub (ws' := (wd_1cbc56ec h1 r13 r14 r15 r16 v3 v4)) [1] (by decide) rfl
  have hKc := hK.sub (tys' := []) [] rfl
  have hFc := va_free (wc := (wd_1cbc56ec h1 r13 r14 r15 r16 v3 v4)) hD hS hA [1] rfl
  refine va_calli (va_runV (As := [.int v5]) (rest := []) ⟨hx, hb, hml, hown, hts⟩ (k_X4_choose l dC dI h1 r13 r14 r15 r16 v3 v4 v5 ⟨i_v3a, i_v3b⟩ H.size) (cwV 1 hts g_X11_law_0 rfl rfl rfl (by decide +kernel) ⟨Nat.le_of_ble_eq_true rfl, Nat.le_of_ble_eq_true rfl⟩) (pv_PV4 hPc hKc hDc (q0 := 0) rfl) rfl rfl hl.1 rfl (lv_room (Nat.le_of_ble_eq_true rfl)) dX11_law_5 ⟨Nat.le_of_ble_eq_true rfl, Nat.le_of_ble_eq_true rfl⟩) hS (fun q _ h => hFc q h) hFc (fun ra1 u t H1 locs ht hvm hwra1 hB hz1 hk1 hS => ?_)
  try rw [hwra1] at hB
  obtain ⟨x2, pt0_ra1, pt1_ra1, pt2_ra1, hP1, hK1, hD1⟩ := hB
  rw [ht] at hP1
  obtain ⟨hP2, hD2⟩ := va_join (wr := (wd_be8fc520 h0 r0 r1 r2 h1 r3 r4 r5 r6 r7 r8 r9 r10 r11 r12 v0 v1 w2)) (w1 := (wd_1cbc56ec h1 r13 r14 r15 r16 v3 x2)) hP hD [1] [0] rfl rfl (by decide) (by decide) hk1 hFc hP1 hD1
  clear hP hD hPc hDc hKc hFc hP1 hK1 hD1 hk1 hz1
  generalize H1 = H at hP2 hS ⊢
  have hP : va_P (dC, dI) vwCl (wd_ff2a762e h0 r0 r1 r2 h1 r3 r4 r5 r6 r7 r8 r9 r10 r11 r12 v0 v1 w2 h1 r13 r14 r15 r16 v3 x2) H := hP2
  have hD : va_D A (wd_ff2a762e h0 r0 r1 r2 h1 r3 r4 r5 r6 r7 r8 r9 r10 r11 r12 v0 v1 w2 h1 r13 r14 r15 r16 v3 x2) := hD2
  clear hP2 hD2
  subst hQ
  have hP9 := hP.sub (ws' := (wd_ff2a762e h0 r0 r1 r2 h1 r3 r4 r5 r6 r7 r8 r9 r10 r11 r12 v0 v1 w2 h1 r13 r14 r15 r16 v3 x2)) [0, 1] rfl
  have hD9 := hD.sub (ws' := (wd_ff2a762e h0 r0 r1 r2 h1 r3 r4 r5 r6 r7 r8 r9 r10 r11 r12 v0 v1 w2 h1 r13 r14 r15 r16 v3 x2)) [0, 1] (by decide) rfl
  have hK9 := hK.sub (tys' := []) [] rfl
  exact W.zret (v := ra1) hx hb hr (pv_nz (by omega) (by omega)) (fun t ht hW => ⟨⟨ra1, ra1, rfl, rfl, ⟨x2, by first | omega | decide, by first | omega | decide, by first | assumption | exact Or.inl ⟨by decide, by omega, by omega⟩ | exact Or.inr ⟨by decide, by omega⟩, by rw [ht]; exact hP9, va_K.moved hW.alike hK9, hD9⟩⟩, hS.F ht⟩) hS.2.2 dX11_law_8
def q_X7_has : List Cond := .code yX7_has cX7_has 2 (some .boolean) :: (([.fieldLink RX7 11 "LeftArguments$Room" "cells" "[I"] : List Cond) ++ wsX70)
set_option maxHeartbeats 4000000 in
set_option maxRecDepth 100000 in
theorem k_X7_has (l : Launch) (dC : Nat → ClassId) (dI : Nat → Nat → Nat) (h0 : Nat) (h1 : Nat) (r0 : Nat) (v0 : Int32) (v1 : Int32) (g0 : ClassId) (f2 : Nat → Int32) (v3 : Int32) (sz : Nat) : Met l yX7_has q_X7_has ({ frames := 0, cells := 0, slots := 0, locals := 0 }) (va_Pc [.ref h0, .int v3] (fun U => U.heap.size = sz ∧ va_P (dC, dI) vwCl (wd_ec98a0b6 h0 h1 r0 v0 v1 h1 g0 f2) U.heap ∧ va_K (dC, dI) vwCl [(g0, .int)] U ∧ va_D (fun _ => True) (wd_ec98a0b6 h0 h1 r0 v0 v1 h1 g0 f2))) (va_Qi (fun (r : Int32) (_ : Unit) => 0 ≤ r.toInt ∧ r.toInt ≤ 1) (fun (_ : Unit) (t : State) => va_P (dC, dI) vwCl (wd_ec98a0b6 h0 h1 r0 v0 v1 h1 g0 f2) t.heap ∧ va_K (dC, dI) vwCl [] t ∧ va_D (va_A (wd_ec98a0b6 h0 h1 r0 v0 v1 h1 g0 f2) sz) (wd_ec98a0b6 h0 h1 r0 v0 v1 h1 g0 f2)) (va_A (wd_ec98a0b6 h0 h1 r0 v0 v1 h1 g0 f2) sz)) 0 0 (va_A (wd_ec98a0b6 h0 h1 r0 v0 v1 h1 g0 f2) sz) := by
  refine Met.ofW (cc := cX7_has) (maxL := 2) (ret := (some .boolean)) (by decide) rfl ?_
  intro p e s m args below meth c s₁ B hml hv
  obtain ⟨rfl, hsz, hP, hK, hD0⟩ := hv
  have hx := B.exec
  have hb := B.bytes
  have hr := B.returns
  have hts := atoms_spec (ws := q_X7_has) B.pre
  have hown : s.vm.findClass RX7 = some m.cls := findClass_of_methodNamed B.named
  have hlocks := B.notSynchronized
  subst hsz
  have hD := hD0.self (sz := s.heap.size)
  generalize hAe : va_A (wd_ec98a0b6 h0 h1 r0 v0 v1 h1 g0 f2) s.heap.size = A at hD ⊢
  have hA : ∀ q : Nat, s.heap.size ≤ q → A q := fun q h => by rw [← hAe]; exact Or.inr h
  have hS : va_S A s.heap s.heap [] := va_S.rf
  generalize hQ : (MQ below _ _ s 0 0 A) = Q
  have hl := lv_entry ([.ref h0, .int v3]) (n := 2) (Nat.le_of_ble_eq_true rfl)
  rw [lg_entry_eq]
  generalize (lg_sl ([.ref h0, .int v3]) ++ List.replicate (2 - (lg_sl ([.ref h0, .int v3])).length) Slot.unset).toArray = ls at hl ⊢
  have hl : lv_has ls 2 [(0, .ref h0), (1, .int v3)] := hl
  obtain ⟨H, hH⟩ : ∃ H : Heap, H = s.heap := ⟨_, rfl⟩
  obtain ⟨locs, hlocs⟩ : ∃ y : List Loc, y = [] := ⟨_, rfl⟩
  have hS : va_S A s.heap H locs := by rw [hH, hlocs]; exact va_S.rf
  have hP : va_P (dC, dI) vwCl (wd_ec98a0b6 h0 h1 r0 v0 v1 h1 g0 f2) H := by rw [hH]; exact hP
  rw [← hH, ← hlocs]
  refine lv_iload_n hx hb dX7_has_0 rfl (lv_at hl 1 rfl) ?_
  have hJ2 : ∀ (x1 : Int32) (H : Heap) (locs : List Loc) (ls : Array Slot), 0 ≤ x1.toInt → x1.toInt ≤ 1 → va_P (dC, dI) vwCl (wd_ec98a0b6 h0 h1 r0 v0 v1 h1 g0 f2) H → va_D A (wd_ec98a0b6 h0 h1 r0 v0 v1 h1 g0 f2) → va_S A s.heap H locs → lv_has ls 2 [(0, .ref h0), (1, .int v3)] → W p l e ({ frames := 0, cells := 0, slots := 0, locals := 0 }) s m ([.ref h0, .int v3] : List Value).toArray below meth c H locs 0 0 Q (F0 m 24 ls [.int x1]) := by
    intro x1 H locs ls qa_x1 qb_x1 hP hD hS hl
    subst hQ
    have hP9 := hP.sub (ws' := (wd_ec98a0b6 h0 h1 r0 v0 v1 h1 g0 f2)) [0, 1] rfl
    have hD9 := hD.sub (ws' := (wd_ec98a0b6 h0 h1 r0 v0 v1 h1 g0 f2)) [0, 1] (by decide) rfl
    have hK9 := hK.sub (tys' := []) [] rfl
    exact W.zret (v := x1) hx hb hr (pv_nz (by omega) (by omega)) (fun t ht hW => ⟨⟨x1, (), rfl, ⟨by first | omega | decide, by first | omega | decide⟩, by rw [ht]; exact hP9, va_K.moved hW.alike hK9, hD9⟩, hS.F ht⟩) hS.2.2 dX7_has_24
  refine lv_if_lt (tgt := 23) hx hb dX7_has_1 (by decide) (fun c3 => ?_) (fun c3 => ?_)
  · skip
    have fc3 : v3.toInt < 0 := Int32.lt_iff_toInt_lt.mp c3
    refine lv_iconst (v := 0) hx hb dX7_has_23 (by decide) ?_
    exact hJ2 0 H locs ls (by decide) (by decide) hP hD hS (lv_sub hl [0, 1] rfl)
  · skip
    have fc3 : ¬ (v3.toInt < 0) := fun h9 => c3 (Int32.lt_iff_toInt_lt.mpr h9)
    refine lv_iload_n hx hb dX7_has_4 rfl (lv_at hl 1 rfl) ?_
    refine lv_bipush (v := 8) hx hb dX7_has_5 (by decide) ?_
    refine lv_icmp_ge (tgt := 23) hx hb dX7_has_7 (by decide) (fun c4 => ?_) (fun c4 => ?_)
    · skip
      have fc4 : 8 ≤ v3.toInt := Int32.le_iff_toInt_le.mp c4
      refine lv_iconst (v := 0) hx hb dX7_has_23 (by decide) ?_
      exact hJ2 0 H locs ls (by decide) (by decide) hP hD hS (lv_sub hl [0, 1] rfl)
    · skip
      have fc4 : ¬ (8 ≤ v3.toInt) := fun h9 => c4 (Int32.le_iff_toInt_le.mpr h9)
      refine lv_aload_n hx hb dX7_has_10 rfl (lv_at hl 0 rfl) ?_
      refine va_get (D := (dC, dI)) (ci := 7) (v := .ref h1) (C := RX7) (T := TX7) (N := 4) hx hb hts (fun _ h => List.mem_cons_of_mem _ (List.mem_append_right _ h)) hown hK hP 0 rfl rfl 0 (by decide) (hts (.fieldLink RX7 11 "LeftArguments$Room" "cells" "[I") (List.mem_cons_of_mem _ (List.mem_append_left _ (List.mem_of_getElem? (i := 0) rfl)))) (fun _ h9 => h9) rfl dX7_has_11 ?_
      refine lv_iload_n hx hb dX7_has_14 rfl (lv_at hl 1 rfl) ?_
      refine va_iald hx hb hK hP 1 0 rfl rfl (vp_in_iff.mpr ⟨by omega, by omega⟩) dX7_has_15 ?_
      refine lv_topi (fun t5 et5 => ?_)
      refine lv_if_le (tgt := 23) hx hb dX7_has_16 (by decide) (fun c6 => ?_) (fun c6 => ?_)
      · skip
        have fc6 : t5.toInt ≤ 0 := Int32.le_iff_toInt_le.mp c6
        refine lv_iconst (v := 0) hx hb dX7_has_23 (by decide) ?_
        exact hJ2 0 H locs ls (by decide) (by decide) hP hD hS (lv_sub hl [0, 1] rfl)
      · skip
        have fc6 : ¬ (t5.toInt ≤ 0) := fun h9 => c6 (Int32.le_iff_toInt_le.mpr h9)
        refine lv_iconst (v := 1) hx hb dX7_has_19 (by decide) ?_
        refine lv_goto (tgt := 24) hx hb dX7_has_20 (by decide) ?_
        exact hJ2 1 H locs ls (by decide) (by decide) hP hD hS (lv_sub hl [0, 1] rfl)
def q_X7_of : List Cond := .code yX7_of cX7_of 3 (some .int) :: (([.fieldLink RX7 11 "LeftArguments$Room" "cells" "[I"] : List Cond) ++ wsX70)
set_option maxHeartbeats 4000000 in
set_option maxRecDepth 100000 in
theorem k_X7_of (l : Launch) (dC : Nat → ClassId) (dI : Nat → Nat → Nat) (h0 : Nat) (h1 : Nat) (r0 : Nat) (v0 : Int32) (v1 : Int32) (g0 : ClassId) (f2 : Nat → Int32) (v3 : Int32) (v4 : Int32) (sz : Nat) : Met l yX7_of q_X7_of ({ frames := 0, cells := 0, slots := 0, locals := 0 }) (va_Pc [.ref h0, .int v3, .int v4] (fun U => U.heap.size = sz ∧ va_P (dC, dI) vwCl (wd_ec98a0b6 h0 h1 r0 v0 v1 h1 g0 f2) U.heap ∧ va_K (dC, dI) vwCl [(g0, .int)] U ∧ va_D (fun _ => True) (wd_ec98a0b6 h0 h1 r0 v0 v1 h1 g0 f2))) (va_Qi (fun (r : Int32) (_ : Unit) => True) (fun (_ : Unit) (t : State) => va_P (dC, dI) vwCl (wd_ec98a0b6 h0 h1 r0 v0 v1 h1 g0 f2) t.heap ∧ va_K (dC, dI) vwCl [] t ∧ va_D (va_A (wd_ec98a0b6 h0 h1 r0 v0 v1 h1 g0 f2) sz) (wd_ec98a0b6 h0 h1 r0 v0 v1 h1 g0 f2)) (va_A (wd_ec98a0b6 h0 h1 r0 v0 v1 h1 g0 f2) sz)) 0 0 (va_A (wd_ec98a0b6 h0 h1 r0 v0 v1 h1 g0 f2) sz) := by
  refine Met.ofW (cc := cX7_of) (maxL := 3) (ret := (some .int)) (by decide) rfl ?_
  intro p e s m args below meth c s₁ B hml hv
  obtain ⟨rfl, hsz, hP, hK, hD0⟩ := hv
  have hx := B.exec
  have hb := B.bytes
  have hr := B.returns
  have hts := atoms_spec (ws := q_X7_of) B.pre
  have hown : s.vm.findClass RX7 = some m.cls := findClass_of_methodNamed B.named
  have hlocks := B.notSynchronized
  subst hsz
  have hD := hD0.self (sz := s.heap.size)
  generalize hAe : va_A (wd_ec98a0b6 h0 h1 r0 v0 v1 h1 g0 f2) s.heap.size = A at hD ⊢
  have hA : ∀ q : Nat, s.heap.size ≤ q → A q := fun q h => by rw [← hAe]; exact Or.inr h
  have hS : va_S A s.heap s.heap [] := va_S.rf
  generalize hQ : (MQ below _ _ s 0 0 A) = Q
  have hl := lv_entry ([.ref h0, .int v3, .int v4]) (n := 3) (Nat.le_of_ble_eq_true rfl)
  rw [lg_entry_eq]
  generalize (lg_sl ([.ref h0, .int v3, .int v4]) ++ List.replicate (3 - (lg_sl ([.ref h0, .int v3, .int v4])).length) Slot.unset).toArray = ls at hl ⊢
  have hl : lv_has ls 3 [(0, .ref h0), (1, .int v3), (2, .int v4)] := hl
  obtain ⟨H, hH⟩ : ∃ H : Heap, H = s.heap := ⟨_, rfl⟩
  obtain ⟨locs, hlocs⟩ : ∃ y : List Loc, y = [] := ⟨_, rfl⟩
  have hS : va_S A s.heap H locs := by rw [hH, hlocs]; exact va_S.rf
  have hP : va_P (dC, dI) vwCl (wd_ec98a0b6 h0 h1 r0 v0 v1 h1 g0 f2) H := by rw [hH]; exact hP
  rw [← hH, ← hlocs]
  refine lv_iload_n hx hb dX7_of_0 rfl (lv_at hl 1 rfl) ?_
  have hJ2 : ∀ (x1 : Int32) (H : Heap) (locs : List Loc) (ls : Array Slot), va_P (dC, dI) vwCl (wd_ec98a0b6 h0 h1 r0 v0 v1 h1 g0 f2) H → va_D A (wd_ec98a0b6 h0 h1 r0 v0 v1 h1 g0 f2) → va_S A s.heap H locs → lv_has ls 3 [(0, .ref h0), (1, .int v3), (2, .int v4)] → W p l e ({ frames := 0, cells := 0, slots := 0, locals := 0 }) s m ([.ref h0, .int v3, .int v4] : List Value).toArray below meth c H locs 0 0 Q (F0 m 35 ls [.int x1]) := by
    intro x1 H locs ls hP hD hS hl
    subst hQ
    have hP9 := hP.sub (ws' := (wd_ec98a0b6 h0 h1 r0 v0 v1 h1 g0 f2)) [0, 1] rfl
    have hD9 := hD.sub (ws' := (wd_ec98a0b6 h0 h1 r0 v0 v1 h1 g0 f2)) [0, 1] (by decide) rfl
    have hK9 := hK.sub (tys' := []) [] rfl
    exact W.iret (v := x1) hx hb hr (fun t ht hW => ⟨⟨x1, (), rfl, trivial, by rw [ht]; exact hP9, va_K.moved hW.alike hK9, hD9⟩, hS.F ht⟩) hS.2.2 dX7_of_35
  refine lv_if_lt (tgt := 34) hx hb dX7_of_1 (by decide) (fun c3 => ?_) (fun c3 => ?_)
  · skip
    have fc3 : v3.toInt < 0 := Int32.lt_iff_toInt_lt.mp c3
    refine lv_iconst (v := 0) hx hb dX7_of_34 (by decide) ?_
    exact hJ2 0 H locs ls hP hD hS (lv_sub hl [0, 1, 2] rfl)
  · skip
    have fc3 : ¬ (v3.toInt < 0) := fun h9 => c3 (Int32.lt_iff_toInt_lt.mpr h9)
    refine lv_iload_n hx hb dX7_of_4 rfl (lv_at hl 1 rfl) ?_
    refine lv_bipush (v := 8) hx hb dX7_of_5 (by decide) ?_
    refine lv_icmp_ge (tgt := 34) hx hb dX7_of_7 (by decide) (fun c4 => ?_) (fun c4 => ?_)
    · skip
      have fc4 : 8 ≤ v3.toInt := Int32.le_iff_toInt_le.mp c4
      refine lv_iconst (v := 0) hx hb dX7_of_34 (by decide) ?_
      exact hJ2 0 H locs ls hP hD hS (lv_sub hl [0, 1, 2] rfl)
    · skip
      have fc4 : ¬ (8 ≤ v3.toInt) := fun h9 => c4 (Int32.le_iff_toInt_le.mpr h9)
      refine lv_iload_n hx hb dX7_of_10 rfl (lv_at hl 2 rfl) ?_
      refine lv_if_lt (tgt := 34) hx hb dX7_of_11 (by decide) (fun c5 => ?_) (fun c5 => ?_)
      · skip
        have fc5 : v4.toInt < 0 := Int32.lt_iff_toInt_lt.mp c5
        refine lv_iconst (v := 0) hx hb dX7_of_34 (by decide) ?_
        exact hJ2 0 H locs ls hP hD hS (lv_sub hl [0, 1, 2] rfl)
      · skip
        have fc5 : ¬ (v4.toInt < 0) := fun h9 => c5 (Int32.lt_iff_toInt_lt.mpr h9)
        refine lv_iload_n hx hb dX7_of_14 rfl (lv_at hl 2 rfl) ?_
        refine lv_bipush (v := 7) hx hb dX7_of_15 (by decide) ?_
        refine lv_icmp_ge (tgt := 34) hx hb dX7_of_17 (by decide) (fun c6 => ?_) (fun c6 => ?_)
        · skip
          have fc6 : 7 ≤ v4.toInt := Int32.le_iff_toInt_le.mp c6
          refine lv_iconst (v := 0) hx hb dX7_of_34 (by decide) ?_
          exact hJ2 0 H locs ls hP hD hS (lv_sub hl [0, 1, 2] rfl)
        · skip
          have fc6 : ¬ (7 ≤ v4.toInt) := fun h9 => c6 (Int32.le_iff_toInt_le.mpr h9)
          refine lv_aload_n hx hb dX7_of_20 rfl (lv_at hl 0 rfl) ?_
          refine va_get (D := (dC, dI)) (ci := 7) (v := .ref h1) (C := RX7) (T := TX7) (N := 4) hx hb hts (fun _ h => List.mem_cons_of_mem _ (List.mem_append_right _ h)) hown hK hP 0 rfl rfl 0 (by decide) (hts (.fieldLink RX7 11 "LeftArguments$Room" "cells" "[I") (List.mem_cons_of_mem _ (List.mem_append_left _ (List.mem_of_getElem? (i := 0) rfl)))) (fun _ h9 => h9) rfl dX7_of_21 ?_
          refine lv_iload_n hx hb dX7_of_24 rfl (lv_at hl 2 rfl) ?_
          refine lv_bipush (v := 8) hx hb dX7_of_25 (by decide) ?_
          refine lv_imul hx hb dX7_of_27 ?_
          refine lv_topi (fun t7 et7 => ?_)
          have gt7 : t7.toInt = v4.toInt * 8 := pv_mul (a := v4.toInt) (b := 8) et7 rfl (by decide) (by omega) (by omega)
          refine lv_iload_n hx hb dX7_of_28 rfl (lv_at hl 1 rfl) ?_
          refine lv_iadd hx hb dX7_of_29 ?_
          refine lv_topi (fun t8 et8 => ?_)
          have gt8 : t8.toInt = t7.toInt + v3.toInt := pv_add (a := t7.toInt) (b := v3.toInt) et8 rfl rfl (by omega) (by omega)
          refine va_iald hx hb hK hP 1 0 rfl rfl (vp_in_iff.mpr ⟨by omega, by omega⟩) dX7_of_30 ?_
          refine lv_topi (fun t9 et9 => ?_)
          refine lv_goto (tgt := 35) hx hb dX7_of_31 (by decide) ?_
          exact hJ2 t9 H locs ls hP hD hS (lv_sub hl [0, 1, 2] rfl)
def q_X7_bagsWith : List Cond := .code yX7_bagsWith cX7_bagsWith 5 (some .int) :: (([.code yX7_has cX7_has 2 (some .boolean), .fieldLink RX7 11 "LeftArguments$Room" "cells" "[I", .initialized RX7, .instanceMethod yX7_has, .selects RX7 yX7_has yX7_has, .methodLink RX7 70 yX7_has, .code yX7_of cX7_of 3 (some .int), .instanceMethod yX7_of, .selects RX7 yX7_of yX7_of, .methodLink RX7 74 yX7_of] : List Cond) ++ wsX70)
set_option maxRecDepth 20000 in
theorem g_X7_bagsWith_0 : GoodIn q_X7_bagsWith (wsV RX7 70 RX7 yX7_has q_X7_has) := goodIn_app (goodIn_r _ [6, 4, 5, 3] rfl (by decide +kernel)) (goodIn_ca (goodIn_r (.code yX7_has cX7_has 2 (some .boolean) :: [.fieldLink RX7 11 "LeftArguments$Room" "cells" "[I"]) [1, 2] rfl (by decide +kernel)) (goodIn_sub (fun _ h => List.mem_cons_of_mem _ (List.mem_append_right _ h)) gwX7))
set_option maxRecDepth 20000 in
theorem g_X7_bagsWith_1 : GoodIn q_X7_bagsWith (wsV RX7 74 RX7 yX7_of q_X7_of) := goodIn_app (goodIn_r _ [10, 8, 9, 3] rfl (by decide +kernel)) (goodIn_ca (goodIn_r (.code yX7_of cX7_of 3 (some .int) :: [.fieldLink RX7 11 "LeftArguments$Room" "cells" "[I"]) [7, 2] rfl (by decide +kernel)) (goodIn_sub (fun _ h => List.mem_cons_of_mem _ (List.mem_append_right _ h)) gwX7))
set_option maxHeartbeats 4000000 in
set_option maxRecDepth 100000 in
theorem k_X7_bagsWith (l : Launch) (dC : Nat → ClassId) (dI : Nat → Nat → Nat) (h0 : Nat) (h1 : Nat) (r0 : Nat) (v0 : Int32) (v1 : Int32) (g0 : ClassId) (f2 : Nat → Int32) (v3 : Int32) (v4 : Int32) (sz : Nat) : Met l yX7_bagsWith q_X7_bagsWith ({ frames := 1, cells := 0, slots := 0, locals := 22 }) (va_Pc [.ref h0, .int v3, .int v4] (fun U => U.heap.size = sz ∧ va_P (dC, dI) vwCl (wd_ec98a0b6 h0 h1 r0 v0 v1 h1 g0 f2) U.heap ∧ va_K (dC, dI) vwCl [(g0, .int)] U ∧ va_D (fun _ => True) (wd_ec98a0b6 h0 h1 r0 v0 v1 h1 g0 f2))) (va_Qi (fun (r : Int32) (_ : Unit) => True) (fun (_ : Unit) (t : State) => va_P (dC, dI) vwCl (wd_ec98a0b6 h0 h1 r0 v0 v1 h1 g0 f2) t.heap ∧ va_K (dC, dI) vwCl [] t ∧ va_D (va_A (wd_ec98a0b6 h0 h1 r0 v0 v1 h1 g0 f2) sz) (wd_ec98a0b6 h0 h1 r0 v0 v1 h1 g0 f2)) (va_A (wd_ec98a0b6 h0 h1 r0 v0 v1 h1 g0 f2) sz)) 0 0 (va_A (wd_ec98a0b6 h0 h1 r0 v0 v1 h1 g0 f2) sz) := by
  refine Met.ofW (cc := cX7_bagsWith) (maxL := 5) (ret := (some .int)) (by decide) rfl ?_
  intro p e s m args below meth c s₁ B hml hv
  obtain ⟨rfl, hsz, hP, hK, hD0⟩ := hv
  have hx := B.exec
  have hb := B.bytes
  have hr := B.returns
  have hts := atoms_spec (ws := q_X7_bagsWith) B.pre
  have hown : s.vm.findClass RX7 = some m.cls := findClass_of_methodNamed B.named
  have hlocks := B.notSynchronized
  subst hsz
  have hD := hD0.self (sz := s.heap.size)
  generalize hAe : va_A (wd_ec98a0b6 h0 h1 r0 v0 v1 h1 g0 f2) s.heap.size = A at hD ⊢
  have hA : ∀ q : Nat, s.heap.size ≤ q → A q := fun q h => by rw [← hAe]; exact Or.inr h
  have hS : va_S A s.heap s.heap [] := va_S.rf
  generalize hQ : (MQ below _ _ s 0 0 A) = Q
  have hl := lv_entry ([.ref h0, .int v3, .int v4]) (n := 5) (Nat.le_of_ble_eq_true rfl)
  rw [lg_entry_eq]
  generalize (lg_sl ([.ref h0, .int v3, .int v4]) ++ List.replicate (5 - (lg_sl ([.ref h0, .int v3, .int v4])).length) Slot.unset).toArray = ls at hl ⊢
  have hl : lv_has ls 5 [(0, .ref h0), (1, .int v3), (2, .int v4)] := hl
  obtain ⟨H, hH⟩ : ∃ H : Heap, H = s.heap := ⟨_, rfl⟩
  obtain ⟨locs, hlocs⟩ : ∃ y : List Loc, y = [] := ⟨_, rfl⟩
  have hS : va_S A s.heap H locs := by rw [hH, hlocs]; exact va_S.rf
  have hP : va_P (dC, dI) vwCl (wd_ec98a0b6 h0 h1 r0 v0 v1 h1 g0 f2) H := by rw [hH]; exact hP
  rw [← hH, ← hlocs]
  refine lv_iconst (v := 0) hx hb dX7_bagsWith_0 (by decide) ?_
  refine lv_istore_n (lv' := [(3, .int 0), (0, .ref h0), (1, .int v3), (2, .int v4)]) hx hb dX7_bagsWith_1 rfl hl (by decide) rfl (fun ls hl => ?_)
  refine lv_iconst (v := 0) hx hb dX7_bagsWith_2 (by decide) ?_
  refine lv_istore (lv' := [(4, .int 0), (3, .int 0), (0, .ref h0), (1, .int v3), (2, .int v4)]) hx hb dX7_bagsWith_3 hl (by decide) rfl (fun ls hl => ?_)
  have hL11 : ∀ (n9 : Nat), ∀ (x7 : Int32) (x8 : Int32) (H : Heap) (locs : List Loc) (ls : Array Slot), 0 ≤ x7.toInt → x7.toInt ≤ 8 → (8 - x7.toInt).toNat < n9 → va_P (dC, dI) vwCl (wd_ec98a0b6 h0 h1 r0 v0 v1 h1 g0 f2) H → va_D A (wd_ec98a0b6 h0 h1 r0 v0 v1 h1 g0 f2) → va_S A s.heap H locs → lv_has ls 5 [(4, .int x7), (3, .int x8), (0, .ref h0), (1, .int v3), (2, .int v4)] → W p l e ({ frames := 1, cells := 0, slots := 0, locals := 22 }) s m ([.ref h0, .int v3, .int v4] : List Value).toArray below meth c H locs 0 0 Q (F0 m 5 ls []) := by
    intro n9
    induction n9 with
    | zero => intro x7 x8 H locs ls qa_x7 qb_x7 hm9 hP hD hS hl; exact absurd hm9 (Nat.not_lt_zero _)
    | succ n9 ih_hL11 =>
      intro x7 x8 H locs ls qa_x7 qb_x7 hm9 hP hD hS hl
      refine lv_iload hx hb dX7_bagsWith_5 (lv_at hl 0 rfl) ?_
      refine lv_bipush (v := 8) hx hb dX7_bagsWith_7 (by decide) ?_
      refine lv_icmp_ge (tgt := 45) hx hb dX7_bagsWith_9 (by decide) (fun c12 => ?_) (fun c12 => ?_)
      · skip
        have fc12 : 8 ≤ x7.toInt := Int32.le_iff_toInt_le.mp c12
        refine lv_iload_n hx hb dX7_bagsWith_45 rfl (lv_at hl 1 rfl) ?_
        subst hQ
        have hP9 := hP.sub (ws' := (wd_ec98a0b6 h0 h1 r0 v0 v1 h1 g0 f2)) [0, 1] rfl
        have hD9 := hD.sub (ws' := (wd_ec98a0b6 h0 h1 r0 v0 v1 h1 g0 f2)) [0, 1] (by decide) rfl
        have hK9 := hK.sub (tys' := []) [] rfl
        exact W.iret (v := x8) hx hb hr (fun t ht hW => ⟨⟨x8, (), rfl, trivial, by rw [ht]; exact hP9, va_K.moved hW.alike hK9, hD9⟩, hS.F ht⟩) hS.2.2 dX7_bagsWith_46
      · skip
        have fc12 : ¬ (8 ≤ x7.toInt) := fun h9 => c12 (Int32.le_iff_toInt_le.mpr h9)
        refine lv_aload_n hx hb dX7_bagsWith_12 rfl (lv_at hl 2 rfl) ?_
        refine lv_iload hx hb dX7_bagsWith_13 (lv_at hl 0 rfl) ?_
        have hPc := hP.sub (ws' := (wd_ec98a0b6 h0 h1 r0 v0 v1 h1 g0 f2)) [0, 1] rfl
        have hDc := hD.sub (ws' := (wd_ec98a0b6 h0 h1 r0 v0 v1 h1 g0 f2)) [0, 1] (by decide) rfl
        have hKc := hK.sub (tys' := [(g0, .int)]) [0] rfl
        have hFc := va_free (wc := (wd_ec98a0b6 h0 h1 r0 v0 v1 h1 g0 f2)) hD hS hA [0, 1] rfl
        refine va_calli (va_runV (As := [.int x7]) (rest := []) ⟨hx, hb, hml, hown, hts⟩ (k_X7_has l dC dI h0 h1 r0 v0 v1 g0 f2 x7  H.size) (cwV 1 hts g_X7_bagsWith_0 rfl rfl rfl (by decide +kernel) ⟨Nat.le_of_ble_eq_true rfl, Nat.le_of_ble_eq_true rfl⟩) (pv_PV7 hPc hKc hDc (q0 := 0) rfl) rfl rfl hl.1 rfl (lv_room (Nat.le_of_ble_eq_true rfl)) dX7_bagsWith_15 ⟨Nat.le_of_ble_eq_true rfl, Nat.le_of_ble_eq_true rfl⟩) hS (fun q _ h => hFc q h) hFc (fun ra13 u t H1 locs ht hvm hwra13 hB hz1 hk1 hS => ?_)
        obtain ⟨hP1, hK1, hD1⟩ := hB
        rw [ht] at hP1
        obtain ⟨hP2, hD2⟩ := va_join (wr := []) (w1 := (wd_ec98a0b6 h0 h1 r0 v0 v1 h1 g0 f2)) hP hD [0, 1] [] rfl rfl (by decide) (by decide) hk1 hFc hP1 hD1
        clear hP hD hPc hDc hKc hFc hP1 hK1 hD1 hk1 hz1
        generalize H1 = H at hP2 hS ⊢
        have hP : va_P (dC, dI) vwCl (wd_ec98a0b6 h0 h1 r0 v0 v1 h1 g0 f2) H := hP2
        have hD : va_D A (wd_ec98a0b6 h0 h1 r0 v0 v1 h1 g0 f2) := hD2
        clear hP2 hD2
        obtain ⟨wa_ra13, wb_ra13⟩ := hwra13
        have wa_ra13 : 0 ≤ ra13.toInt := wa_ra13
        have wb_ra13 : ra13.toInt ≤ 1 := wb_ra13
        have hJ15 : ∀ (x14 : Int32) (H : Heap) (locs : List Loc) (ls : Array Slot), va_P (dC, dI) vwCl (wd_ec98a0b6 h0 h1 r0 v0 v1 h1 g0 f2) H → va_D A (wd_ec98a0b6 h0 h1 r0 v0 v1 h1 g0 f2) → va_S A s.heap H locs → lv_has ls 5 [(4, .int x7), (3, .int x14), (0, .ref h0), (1, .int v3), (2, .int v4)] → W p l e ({ frames := 1, cells := 0, slots := 0, locals := 22 }) s m ([.ref h0, .int v3, .int v4] : List Value).toArray below meth c H locs 0 0 Q (F0 m 39 ls []) := by
          intro x14 H locs ls hP hD hS hl
          obtain ⟨t16, et16⟩ : ∃ y : Int32, y = x7 + 1 := ⟨_, rfl⟩
          have gt16 : t16.toInt = x7.toInt + (1) := pv_add (a := x7.toInt) (b := (1)) et16 rfl (by decide) (by omega) (by omega)
          refine lv_iinc (v := t16) (lv' := [(4, .int t16), (3, .int x14), (0, .ref h0), (1, .int v3), (2, .int v4)]) hx hb dX7_bagsWith_39 hl (k := 0) rfl (by rw [et16]; rfl) (by decide) rfl (fun ls hl => ?_)
          refine lv_goto (tgt := 5) hx hb dX7_bagsWith_42 (by decide) ?_
          exact ih_hL11 t16 x14 H locs ls (by first | omega | decide) (by first | omega | decide) (by first | omega | (simp only [Int.toNat] at *; omega)) hP hD hS (lv_sub hl [0, 1, 2, 3, 4] rfl)
        refine lv_if_eq (tgt := 39) hx hb dX7_bagsWith_18 (by decide) (fun c17 => ?_) (fun c17 => ?_)
        · skip
          have fc17 : ra13.toInt = 0 := congrArg Int32.toInt c17
          exact hJ15 x8 H locs ls hP hD hS (lv_sub hl [0, 1, 2, 3, 4] rfl)
        · skip
          have fc17 : ¬ (ra13.toInt = 0) := fun h9 => c17 (Int32.toInt_inj.mp h9)
          refine lv_aload_n hx hb dX7_bagsWith_21 rfl (lv_at hl 2 rfl) ?_
          refine lv_iload hx hb dX7_bagsWith_22 (lv_at hl 0 rfl) ?_
          refine lv_iload_n hx hb dX7_bagsWith_24 rfl (lv_at hl 3 rfl) ?_
          have hPc := hP.sub (ws' := (wd_ec98a0b6 h0 h1 r0 v0 v1 h1 g0 f2)) [0, 1] rfl
          have hDc := hD.sub (ws' := (wd_ec98a0b6 h0 h1 r0 v0 v1 h1 g0 f2)) [0, 1] (by decide) rfl
          have hKc := hK.sub (tys' := [(g0, .int)]) [0] rfl
          have hFc := va_free (wc := (wd_ec98a0b6 h0 h1 r0 v0 v1 h1 g0 f2)) hD hS hA [0, 1] rfl
          refine va_calli (va_runV (As := [.int x7, .int v3]) (rest := []) ⟨hx, hb, hml, hown, hts⟩ (k_X7_of l dC dI h0 h1 r0 v0 v1 g0 f2 x7 v3  H.size) (cwV 2 hts g_X7_bagsWith_1 rfl rfl rfl (by decide +kernel) ⟨Nat.le_of_ble_eq_true rfl, Nat.le_of_ble_eq_true rfl⟩) (pv_PV7 hPc hKc hDc (q0 := 0) rfl) rfl rfl hl.1 rfl (lv_room (Nat.le_of_ble_eq_true rfl)) dX7_bagsWith_25 ⟨Nat.le_of_ble_eq_true rfl, Nat.le_of_ble_eq_true rfl⟩) hS (fun q _ h => hFc q h) hFc (fun ra18 u t H1 locs ht hvm hwra18 hB hz1 hk1 hS => ?_)
          obtain ⟨hP1, hK1, hD1⟩ := hB
          rw [ht] at hP1
          obtain ⟨hP2, hD2⟩ := va_join (wr := []) (w1 := (wd_ec98a0b6 h0 h1 r0 v0 v1 h1 g0 f2)) hP hD [0, 1] [] rfl rfl (by decide) (by decide) hk1 hFc hP1 hD1
          clear hP hD hPc hDc hKc hFc hP1 hK1 hD1 hk1 hz1
          generalize H1 = H at hP2 hS ⊢
          have hP : va_P (dC, dI) vwCl (wd_ec98a0b6 h0 h1 r0 v0 v1 h1 g0 f2) H := hP2
          have hD : va_D A (wd_ec98a0b6 h0 h1 r0 v0 v1 h1 g0 f2) := hD2
          clear hP2 hD2
          refine lv_iload_n hx hb dX7_bagsWith_28 rfl (lv_at hl 4 rfl) ?_
          refine lv_icmp_lt (tgt := 39) hx hb dX7_bagsWith_29 (by decide) (fun c19 => ?_) (fun c19 => ?_)
          · skip
            have fc19 : ra18.toInt < v4.toInt := Int32.lt_iff_toInt_lt.mp c19
            have r1c19 := Int32.toInt_lt ra18
            have r2c19 := Int32.toInt_lt v4
            have r3c19 := Int32.le_toInt ra18
            have r4c19 := Int32.le_toInt v4
            exact hJ15 x8 H locs ls hP hD hS (lv_sub hl [0, 1, 2, 3, 4] rfl)
          · skip
            have fc19 : ¬ (ra18.toInt < v4.toInt) := fun h9 => c19 (Int32.lt_iff_toInt_lt.mpr h9)
            have r1c19 := Int32.toInt_lt ra18
            have r2c19 := Int32.toInt_lt v4
            have r3c19 := Int32.le_toInt ra18
            have r4c19 := Int32.le_toInt v4
            refine lv_iload_n hx hb dX7_bagsWith_32 rfl (lv_at hl 1 rfl) ?_
            refine lv_iconst (v := 1) hx hb dX7_bagsWith_33 (by decide) ?_
            refine lv_iload hx hb dX7_bagsWith_34 (lv_at hl 0 rfl) ?_
            refine lv_ishl hx hb dX7_bagsWith_36 ?_
            refine lv_topi (fun t20 et20 => ?_)
            refine lv_ior hx hb dX7_bagsWith_37 ?_
            refine lv_topi (fun t21 et21 => ?_)
            refine lv_istore_n (lv' := [(3, .int t21), (4, .int x7), (0, .ref h0), (1, .int v3), (2, .int v4)]) hx hb dX7_bagsWith_38 rfl hl (by decide) rfl (fun ls hl => ?_)
            exact hJ15 t21 H locs ls hP hD hS (lv_sub hl [1, 0, 2, 3, 4] rfl)
  exact hL11 _ 0 0 H locs ls (by decide) (by decide) (Nat.lt_succ_self _) hP hD hS (lv_sub hl [0, 1, 2, 3, 4] rfl)
def q_X7_bags : List Cond := .code yX7_bags cX7_bags 1 (some .int) :: (([.code yX7_bagsWith cX7_bagsWith 5 (some .int), .code yX7_has cX7_has 2 (some .boolean), .fieldLink RX7 11 "LeftArguments$Room" "cells" "[I", .initialized RX7, .instanceMethod yX7_has, .selects RX7 yX7_has yX7_has, .methodLink RX7 70 yX7_has, .code yX7_of cX7_of 3 (some .int), .instanceMethod yX7_of, .selects RX7 yX7_of yX7_of, .methodLink RX7 74 yX7_of, .instanceMethod yX7_bagsWith, .selects RX7 yX7_bagsWith yX7_bagsWith, .methodLink RX7 77 yX7_bagsWith] : List Cond) ++ wsX70)
set_option maxRecDepth 20000 in
theorem g_X7_bags_0 : GoodIn q_X7_bags (wsV RX7 77 RX7 yX7_bagsWith q_X7_bagsWith) := goodIn_app (goodIn_r _ [14, 12, 13, 4] rfl (by decide +kernel)) (goodIn_ca (goodIn_r (.code yX7_bagsWith cX7_bagsWith 5 (some .int) :: [.code yX7_has cX7_has 2 (some .boolean), .fieldLink RX7 11 "LeftArguments$Room" "cells" "[I", .initialized RX7, .instanceMethod yX7_has, .selects RX7 yX7_has yX7_has, .methodLink RX7 70 yX7_has, .code yX7_of cX7_of 3 (some .int), .instanceMethod yX7_of, .selects RX7 yX7_of yX7_of, .methodLink RX7 74 yX7_of]) [1, 2, 3, 4, 5, 6, 7, 8, 9, 10, 11] rfl (by decide +kernel)) (goodIn_sub (fun _ h => List.mem_cons_of_mem _ (List.mem_append_right _ h)) gwX7))
set_option maxHeartbeats 4000000 in
set_option maxRecDepth 100000 in
theorem k_X7_bags (l : Launch) (dC : Nat → ClassId) (dI : Nat → Nat → Nat) (h0 : Nat) (h1 : Nat) (r0 : Nat) (v0 : Int32) (v1 : Int32) (g0 : ClassId) (f2 : Nat → Int32) (sz : Nat) : Met l yX7_bags q_X7_bags ({ frames := 2, cells := 0, slots := 0, locals := 46 }) (va_Pc [.ref h0] (fun U => U.heap.size = sz ∧ va_P (dC, dI) vwCl (wd_ec98a0b6 h0 h1 r0 v0 v1 h1 g0 f2) U.heap ∧ va_K (dC, dI) vwCl [(g0, .int)] U ∧ va_D (fun _ => True) (wd_ec98a0b6 h0 h1 r0 v0 v1 h1 g0 f2))) (va_Qi (fun (r : Int32) (_ : Unit) => True) (fun (_ : Unit) (t : State) => va_P (dC, dI) vwCl (wd_ec98a0b6 h0 h1 r0 v0 v1 h1 g0 f2) t.heap ∧ va_K (dC, dI) vwCl [] t ∧ va_D (va_A (wd_ec98a0b6 h0 h1 r0 v0 v1 h1 g0 f2) sz) (wd_ec98a0b6 h0 h1 r0 v0 v1 h1 g0 f2)) (va_A (wd_ec98a0b6 h0 h1 r0 v0 v1 h1 g0 f2) sz)) 0 0 (va_A (wd_ec98a0b6 h0 h1 r0 v0 v1 h1 g0 f2) sz) := by
  refine Met.ofW (cc := cX7_bags) (maxL := 1) (ret := (some .int)) (by decide) rfl ?_
  intro p e s m args below meth c s₁ B hml hv
  obtain ⟨rfl, hsz, hP, hK, hD0⟩ := hv
  have hx := B.exec
  have hb := B.bytes
  have hr := B.returns
  have hts := atoms_spec (ws := q_X7_bags) B.pre
  have hown : s.vm.findClass RX7 = some m.cls := findClass_of_methodNamed B.named
  have hlocks := B.notSynchronized
  subst hsz
  have hD := hD0.self (sz := s.heap.size)
  generalize hAe : va_A (wd_ec98a0b6 h0 h1 r0 v0 v1 h1 g0 f2) s.heap.size = A at hD ⊢
  have hA : ∀ q : Nat, s.heap.size ≤ q → A q := fun q h => by rw [← hAe]; exact Or.inr h
  have hS : va_S A s.heap s.heap [] := va_S.rf
  generalize hQ : (MQ below _ _ s 0 0 A) = Q
  have hl := lv_entry ([.ref h0]) (n := 1) (Nat.le_of_ble_eq_true rfl)
  rw [lg_entry_eq]
  generalize (lg_sl ([.ref h0]) ++ List.replicate (1 - (lg_sl ([.ref h0])).length) Slot.unset).toArray = ls at hl ⊢
  have hl : lv_has ls 1 [(0, .ref h0)] := hl
  obtain ⟨H, hH⟩ : ∃ H : Heap, H = s.heap := ⟨_, rfl⟩
  obtain ⟨locs, hlocs⟩ : ∃ y : List Loc, y = [] := ⟨_, rfl⟩
  have hS : va_S A s.heap H locs := by rw [hH, hlocs]; exact va_S.rf
  have hP : va_P (dC, dI) vwCl (wd_ec98a0b6 h0 h1 r0 v0 v1 h1 g0 f2) H := by rw [hH]; exact hP
  rw [← hH, ← hlocs]
  refine lv_aload_n hx hb dX7_bags_0 rfl (lv_at hl 0 rfl) ?_
  refine lv_iconst (v := 0) hx hb dX7_bags_1 (by decide) ?_
  refine lv_iconst (v := 1) hx hb dX7_bags_2 (by decide) ?_
  have hPc := hP.sub (ws' := (wd_ec98a0b6 h0 h1 r0 v0 v1 h1 g0 f2)) [0, 1] rfl
  have hDc := hD.sub (ws' := (wd_ec98a0b6 h0 h1 r0 v0 v1 h1 g0 f2)) [0, 1] (by decide) rfl
  have hKc := hK.sub (tys' := [(g0, .int)]) [0] rfl
  have hFc := va_free (wc := (wd_ec98a0b6 h0 h1 r0 v0 v1 h1 g0 f2)) hD hS hA [0, 1] rfl
  refine va_calli (va_runV (As := [.int 0, .int 1]) (rest := []) ⟨hx, hb, hml, hown, hts⟩ (k_X7_bagsWith l dC dI h0 h1 r0 v0 v1 g0 f2 0 1  H.size) (cwV 2 hts g_X7_bags_0 rfl rfl rfl (by decide +kernel) ⟨Nat.le_of_ble_eq_true rfl, Nat.le_of_ble_eq_true rfl⟩) (pv_PV7 hPc hKc hDc (q0 := 0) rfl) rfl rfl hl.1 rfl (lv_room (Nat.le_of_ble_eq_true rfl)) dX7_bags_3 ⟨Nat.le_of_ble_eq_true rfl, Nat.le_of_ble_eq_true rfl⟩) hS (fun q _ h => hFc q h) hFc (fun ra1 u t H1 locs ht hvm hwra1 hB hz1 hk1 hS => ?_)
  obtain ⟨hP1, hK1, hD1⟩ := hB
  rw [ht] at hP1
  obtain ⟨hP2, hD2⟩ := va_join (wr := []) (w1 := (wd_ec98a0b6 h0 h1 r0 v0 v1 h1 g0 f2)) hP hD [0, 1] [] rfl rfl (by decide) (by decide) hk1 hFc hP1 hD1
  clear hP hD hPc hDc hKc hFc hP1 hK1 hD1 hk1 hz1
  generalize H1 = H at hP2 hS ⊢
  have hP : va_P (dC, dI) vwCl (wd_ec98a0b6 h0 h1 r0 v0 v1 h1 g0 f2) H := hP2
  have hD : va_D A (wd_ec98a0b6 h0 h1 r0 v0 v1 h1 g0 f2) := hD2
  clear hP2 hD2
  subst hQ
  have hP9 := hP.sub (ws' := (wd_ec98a0b6 h0 h1 r0 v0 v1 h1 g0 f2)) [0, 1] rfl
  have hD9 := hD.sub (ws' := (wd_ec98a0b6 h0 h1 r0 v0 v1 h1 g0 f2)) [0, 1] (by decide) rfl
  have hK9 := hK.sub (tys' := []) [] rfl
  exact W.iret (v := ra1) hx hb hr (fun t ht hW => ⟨⟨ra1, (), rfl, trivial, by rw [ht]; exact hP9, va_K.moved hW.alike hK9, hD9⟩, hS.F ht⟩) hS.2.2 dX7_bags_6
def q_J7_fill_53178 : List Cond := .code yJ7_fill_53178 cJ7_fill_53178 4 none :: (([] : List Cond))
set_option maxHeartbeats 4000000 in
set_option maxRecDepth 100000 in
theorem k_J7_fill_53178 (l : Launch) (dC : Nat → ClassId) (dI : Nat → Nat → Nat) (h0 : Nat) (g0 : ClassId) (f0 : Nat → Int32) (v1 : Int32) (sz : Nat) : Met l yJ7_fill_53178 q_J7_fill_53178 ({ frames := 0, cells := 0, slots := 0, locals := 0 }) (va_Pc [.ref h0, .int v1] (fun U => U.heap.size = sz ∧ va_P (dC, dI) vwCl (wd_c7d12799 h0 g0 f0) U.heap ∧ va_K (dC, dI) vwCl [(g0, .int)] U ∧ va_D (fun _ => True) (wd_c7d12799 h0 g0 f0))) (va_Qv (fun (_ : Unit) => True) (fun (_ : Unit) (t : State) => ∃ (o_h0 : Nat → Int32), va_P (dC, dI) vwCl (wd_c7d12799 h0 g0 o_h0) t.heap ∧ va_K (dC, dI) vwCl [] t ∧ va_D (va_A (wd_c7d12799 h0 g0 f0) sz) (wd_c7d12799 h0 g0 o_h0)) (va_A (wd_c7d12799 h0 g0 f0) sz)) 0 0 (va_A (wd_c7d12799 h0 g0 f0) sz) := by
  refine pv_ofWF (cc := cJ7_fill_53178) (maxL := 4) (ret := none) (by decide +kernel) rfl ?_
  intro p e s m args below meth c s₁ B hml hv
  obtain ⟨rfl, hsz, hP, hK, hD0⟩ := hv
  have hx := B.exec
  have hb := B.bytes
  have hr := B.returns
  have hts := atoms_spec (ws := q_J7_fill_53178) B.pre
  have hown : s.vm.findClass RJ7 = some m.cls := findClass_of_methodNamed B.named
  have hlocks := B.notSynchronized
  subst hsz
  have hD := hD0.self (sz := s.heap.size)
  generalize hAe : va_A (wd_c7d12799 h0 g0 f0) s.heap.size = A at hD ⊢
  have hA : ∀ q : Nat, s.heap.size ≤ q → A q := fun q h => by rw [← hAe]; exact Or.inr h
  have hS : va_S A s.heap s.heap [] := va_S.rf
  generalize hQ : (MQ below _ _ s 0 0 A) = Q
  have hl := lv_entry ([.ref h0, .int v1]) (n := 4) (Nat.le_of_ble_eq_true rfl)
  rw [lg_entry_eq]
  generalize (lg_sl ([.ref h0, .int v1]) ++ List.replicate (4 - (lg_sl ([.ref h0, .int v1])).length) Slot.unset).toArray = ls at hl ⊢
  have hl : lv_has ls 4 [(0, .ref h0), (1, .int v1)] := hl
  obtain ⟨H, hH⟩ : ∃ H : Heap, H = s.heap := ⟨_, rfl⟩
  obtain ⟨locs, hlocs⟩ : ∃ y : List Loc, y = [] := ⟨_, rfl⟩
  have hS : va_S A s.heap H locs := by rw [hH, hlocs]; exact va_S.rf
  have hP : va_P (dC, dI) vwCl (wd_c7d12799 h0 g0 f0) H := by rw [hH]; exact hP
  rw [← hH, ← hlocs]
  refine lv_iconst (v := 0) hx hb dJ7_fill_53178_0 (by decide) ?_
  refine lv_istore_n (lv' := [(2, .int 0), (0, .ref h0), (1, .int v1)]) hx hb dJ7_fill_53178_1 rfl hl (by decide) rfl (fun ls hl => ?_)
  refine lv_aload_n hx hb dJ7_fill_53178_2 rfl (lv_at hl 1 rfl) ?_
  refine va_alen (v := 58) hx hb hK hP 0 0 rfl rfl (by rfl) dJ7_fill_53178_3 ?_
  refine lv_istore_n (lv' := [(3, .int 58), (2, .int 0), (0, .ref h0), (1, .int v1)]) hx hb dJ7_fill_53178_4 rfl hl (by decide) rfl (fun ls hl => ?_)
  have hL15 : ∀ (n9 : Nat), ∀ (x11 : Int32) (fn12 : Nat → Int32) (H : Heap) (locs : List Loc) (ls : Array Slot), 0 ≤ x11.toInt → x11.toInt ≤ 58 → (58 - x11.toInt).toNat < n9 → va_P (dC, dI) vwCl (wd_c7d12799 h0 g0 fn12) H → va_D A (wd_c7d12799 h0 g0 fn12) → va_S A s.heap H locs → lv_has ls 4 [(3, .int 58), (2, .int x11), (0, .ref h0), (1, .int v1)] → W p l e ({ frames := 0, cells := 0, slots := 0, locals := 0 }) s m ([.ref h0, .int v1] : List Value).toArray below meth c H locs 0 0 Q (F0 m 5 ls []) := by
    intro n9
    induction n9 with
    | zero => intro x11 fn12 H locs ls qa_x11 qb_x11 hm9 hP hD hS hl; exact absurd hm9 (Nat.not_lt_zero _)
    | succ n9 ih_hL15 =>
      intro x11 fn12 H locs ls qa_x11 qb_x11 hm9 hP hD hS hl
      refine lv_iload_n hx hb dJ7_fill_53178_5 rfl (lv_at hl 1 rfl) ?_
      refine lv_iload_n hx hb dJ7_fill_53178_6 rfl (lv_at hl 0 rfl) ?_
      refine lv_icmp_ge (tgt := 20) hx hb dJ7_fill_53178_7 (by decide) (fun c16 => ?_) (fun c16 => ?_)
      · skip
        have fc16 : 58 ≤ x11.toInt := Int32.le_iff_toInt_le.mp c16
        subst hQ
        have hP9 := hP.sub (ws' := (wd_c7d12799 h0 g0 fn12)) [0] rfl
        have hD9 := hD.sub (ws' := (wd_c7d12799 h0 g0 fn12)) [0] (by decide) rfl
        have hK9 := hK.sub (tys' := []) [] rfl
        exact W.vret hx hb hr (fun t ht hW => ⟨⟨(), rfl, trivial, fn12, by rw [ht]; exact hP9, va_K.moved hW.alike hK9, hD9⟩, hS.F ht⟩) hS.2.2 dJ7_fill_53178_20
      · skip
        have fc16 : ¬ (58 ≤ x11.toInt) := fun h9 => c16 (Int32.le_iff_toInt_le.mpr h9)
        refine lv_aload_n hx hb dJ7_fill_53178_10 rfl (lv_at hl 2 rfl) ?_
        refine lv_iload_n hx hb dJ7_fill_53178_11 rfl (lv_at hl 1 rfl) ?_
        refine lv_iload_n hx hb dJ7_fill_53178_12 rfl (lv_at hl 3 rfl) ?_
        refine va_iast hx hb hK hP hD hS 0 0 rfl rfl (vp_in_iff.mpr ⟨by omega, by omega⟩) dJ7_fill_53178_13 (fun H locs hP hD hS => ?_)
        obtain ⟨fn17, efn17⟩ : ∃ g : Nat → Int32, g = upd fn12 (Int32.toNatClampNeg x11) v1 := ⟨_, rfl⟩
        rw [← efn17] at hP hD
        have hP : va_P (dC, dI) vwCl (wd_c7d12799 h0 g0 fn17) H := hP
        have hD : va_D A (wd_c7d12799 h0 g0 fn17) := hD
        obtain ⟨t18, et18⟩ : ∃ y : Int32, y = x11 + 1 := ⟨_, rfl⟩
        have gt18 : t18.toInt = x11.toInt + (1) := pv_add (a := x11.toInt) (b := (1)) et18 rfl (by decide) (by omega) (by omega)
        refine lv_iinc (v := t18) (lv' := [(2, .int t18), (3, .int 58), (0, .ref h0), (1, .int v1)]) hx hb dJ7_fill_53178_14 hl (k := 1) rfl (by rw [et18]; rfl) (by decide) rfl (fun ls hl => ?_)
        refine lv_goto (tgt := 5) hx hb dJ7_fill_53178_17 (by decide) ?_
        exact ih_hL15 t18 fn17 H locs ls (by first | omega | decide) (by first | omega | decide) (by first | omega | (simp only [Int.toNat] at *; omega)) hP hD hS (lv_sub hl [1, 0, 2, 3] rfl)
  exact hL15 _ 0 f0 H locs ls (by decide) (by decide) (Nat.lt_succ_self _) hP hD hS (lv_sub hl [0, 1, 2, 3] rfl)
def q_X7_clear : List Cond := .code yX7_clear cX7_clear 1 none :: (([.fieldLink RX7 11 "LeftArguments$Room" "cells" "[I", .code yJ7_fill_53178 cJ7_fill_53178 4 none, .initialized RJ7, .static yJ7_fill_53178, .methodLink RX7 46 yJ7_fill_53178] : List Cond) ++ wsX70)
set_option maxRecDepth 20000 in
theorem g_X7_clear_0 : GoodIn q_X7_clear (va_wsS RX7 46 yJ7_fill_53178 q_J7_fill_53178) := goodIn_app (goodIn_r _ [5, 4, 3] rfl (by decide +kernel)) (goodIn_r (.code yJ7_fill_53178 cJ7_fill_53178 4 none :: []) [2] rfl (by decide +kernel))
set_option maxHeartbeats 4000000 in
set_option maxRecDepth 100000 in
theorem k_X7_clear (l : Launch) (dC : Nat → ClassId) (dI : Nat → Nat → Nat) (h0 : Nat) (h1 : Nat) (r0 : Nat) (v0 : Int32) (v1 : Int32) (g0 : ClassId) (f2 : Nat → Int32) (sz : Nat) : Met l yX7_clear q_X7_clear ({ frames := 1, cells := 0, slots := 0, locals := 23 }) (va_Pc [.ref h0] (fun U => U.heap.size = sz ∧ va_P (dC, dI) vwCl (wd_ec98a0b6 h0 h1 r0 v0 v1 h1 g0 f2) U.heap ∧ va_K (dC, dI) vwCl [(g0, .int)] U ∧ va_D (fun _ => True) (wd_ec98a0b6 h0 h1 r0 v0 v1 h1 g0 f2))) (va_Qv (fun (_ : Unit) => True) (fun (_ : Unit) (t : State) => ∃ (o_h1 : Nat → Int32), va_P (dC, dI) vwCl (wd_ec98a0b6 h0 h1 r0 v0 v1 h1 g0 o_h1) t.heap ∧ va_K (dC, dI) vwCl [] t ∧ va_D (va_A (wd_ec98a0b6 h0 h1 r0 v0 v1 h1 g0 f2) sz) (wd_ec98a0b6 h0 h1 r0 v0 v1 h1 g0 o_h1)) (va_A (wd_ec98a0b6 h0 h1 r0 v0 v1 h1 g0 f2) sz)) 0 0 (va_A (wd_ec98a0b6 h0 h1 r0 v0 v1 h1 g0 f2) sz) := by
  refine Met.ofW (cc := cX7_clear) (maxL := 1) (ret := none) (by decide) rfl ?_
  intro p e s m args below meth c s₁ B hml hv
  obtain ⟨rfl, hsz, hP, hK, hD0⟩ := hv
  have hx := B.exec
  have hb := B.bytes
  have hr := B.returns
  have hts := atoms_spec (ws := q_X7_clear) B.pre
  have hown : s.vm.findClass RX7 = some m.cls := findClass_of_methodNamed B.named
  have hlocks := B.notSynchronized
  subst hsz
  have hD := hD0.self (sz := s.heap.size)
  generalize hAe : va_A (wd_ec98a0b6 h0 h1 r0 v0 v1 h1 g0 f2) s.heap.size = A at hD ⊢
  have hA : ∀ q : Nat, s.heap.size ≤ q → A q := fun q h => by rw [← hAe]; exact Or.inr h
  have hS : va_S A s.heap s.heap [] := va_S.rf
  generalize hQ : (MQ below _ _ s 0 0 A) = Q
  have hl := lv_entry ([.ref h0]) (n := 1) (Nat.le_of_ble_eq_true rfl)
  rw [lg_entry_eq]
  generalize (lg_sl ([.ref h0]) ++ List.replicate (1 - (lg_sl ([.ref h0])).length) Slot.unset).toArray = ls at hl ⊢
  have hl : lv_has ls 1 [(0, .ref h0)] := hl
  obtain ⟨H, hH⟩ : ∃ H : Heap, H = s.heap := ⟨_, rfl⟩
  obtain ⟨locs, hlocs⟩ : ∃ y : List Loc, y = [] := ⟨_, rfl⟩
  have hS : va_S A s.heap H locs := by rw [hH, hlocs]; exact va_S.rf
  have hP : va_P (dC, dI) vwCl (wd_ec98a0b6 h0 h1 r0 v0 v1 h1 g0 f2) H := by rw [hH]; exact hP
  rw [← hH, ← hlocs]
  refine lv_aload_n hx hb dX7_clear_0 rfl (lv_at hl 0 rfl) ?_
  refine va_get (D := (dC, dI)) (ci := 7) (v := .ref h1) (C := RX7) (T := TX7) (N := 4) hx hb hts (fun _ h => List.mem_cons_of_mem _ (List.mem_append_right _ h)) hown hK hP 0 rfl rfl 0 (by decide) (hts (.fieldLink RX7 11 "LeftArguments$Room" "cells" "[I") (List.mem_cons_of_mem _ (List.mem_append_left _ (List.mem_of_getElem? (i := 0) rfl)))) (fun _ h9 => h9) rfl dX7_clear_1 ?_
  refine lv_iconst (v := 0) hx hb dX7_clear_4 (by decide) ?_
  have hPc := hP.sub (ws' := (wd_c7d12799 h1 g0 f2)) [1] rfl
  have hDc := hD.sub (ws' := (wd_c7d12799 h1 g0 f2)) [1] (by decide) rfl
  have hKc := hK.sub (tys' := [(g0, .int)]) [0] rfl
  have hFc := va_free (wc := (wd_c7d12799 h1 g0 f2)) hD hS hA [1] rfl
  refine va_callv (va_runS (As := [.ref h1, .int 0]) (rest := []) ⟨hx, hb, hml, hown, hts⟩ (k_J7_fill_53178 l dC dI h1 g0 f2 0  H.size) (va_cwS 2 hts g_X7_clear_0 rfl rfl rfl (by decide +kernel) ⟨Nat.le_of_ble_eq_true rfl, Nat.le_of_ble_eq_true rfl⟩) (pv_PS hPc hKc hDc) rfl rfl hl.1 rfl (lv_room (Nat.le_of_ble_eq_true rfl)) dX7_clear_5 ⟨Nat.le_of_ble_eq_true rfl, Nat.le_of_ble_eq_true rfl⟩) hS (fun q _ h => hFc q h) hFc (fun u t H1 locs ht hvm hwra1 hB hz1 hk1 hS => ?_)
  obtain ⟨fn2, hP1, hK1, hD1⟩ := hB
  rw [ht] at hP1
  obtain ⟨hP2, hD2⟩ := va_join (wr := (wd_38ee9ada h0 h1 r0 v0 v1)) (w1 := (wd_c7d12799 h1 g0 fn2)) hP hD [1] [0] rfl rfl (by decide) (by decide) hk1 hFc hP1 hD1
  clear hP hD hPc hDc hKc hFc hP1 hK1 hD1 hk1 hz1
  generalize H1 = H at hP2 hS ⊢
  have hP : va_P (dC, dI) vwCl (wd_ec98a0b6 h0 h1 r0 v0 v1 h1 g0 fn2) H := hP2
  have hD : va_D A (wd_ec98a0b6 h0 h1 r0 v0 v1 h1 g0 fn2) := hD2
  clear hP2 hD2
  subst hQ
  have hP9 := hP.sub (ws' := (wd_ec98a0b6 h0 h1 r0 v0 v1 h1 g0 fn2)) [0, 1] rfl
  have hD9 := hD.sub (ws' := (wd_ec98a0b6 h0 h1 r0 v0 v1 h1 g0 fn2)) [0, 1] (by decide) rfl
  have hK9 := hK.sub (tys' := []) [] rfl
  exact W.vret hx hb hr (fun t ht hW => ⟨⟨(), rfl, trivial, fn2, by rw [ht]; exact hP9, va_K.moved hW.alike hK9, hD9⟩, hS.F ht⟩) hS.2.2 dX7_clear_8
def q_X7_coins : List Cond := .code yX7_coins cX7_coins 1 (some .int) :: (([.fieldLink RX7 11 "LeftArguments$Room" "cells" "[I"] : List Cond) ++ wsX70)
set_option maxHeartbeats 4000000 in
set_option maxRecDepth 100000 in
theorem k_X7_coins (l : Launch) (dC : Nat → ClassId) (dI : Nat → Nat → Nat) (h0 : Nat) (h1 : Nat) (r0 : Nat) (v0 : Int32) (v1 : Int32) (g0 : ClassId) (f2 : Nat → Int32) (sz : Nat) : Met l yX7_coins q_X7_coins ({ frames := 0, cells := 0, slots := 0, locals := 0 }) (va_Pc [.ref h0] (fun U => U.heap.size = sz ∧ va_P (dC, dI) vwCl (wd_ec98a0b6 h0 h1 r0 v0 v1 h1 g0 f2) U.heap ∧ va_K (dC, dI) vwCl [(g0, .int)] U ∧ va_D (fun _ => True) (wd_ec98a0b6 h0 h1 r0 v0 v1 h1 g0 f2))) (va_Qi (fun (r : Int32) (_ : Unit) => True) (fun (_ : Unit) (t : State) => va_P (dC, dI) vwCl (wd_ec98a0b6 h0 h1 r0 v0 v1 h1 g0 f2) t.heap ∧ va_K (dC, dI) vwCl [] t ∧ va_D (va_A (wd_ec98a0b6 h0 h1 r0 v0 v1 h1 g0 f2) sz) (wd_ec98a0b6 h0 h1 r0 v0 v1 h1 g0 f2)) (va_A (wd_ec98a0b6 h0 h1 r0 v0 v1 h1 g0 f2) sz)) 0 0 (va_A (wd_ec98a0b6 h0 h1 r0 v0 v1 h1 g0 f2) sz) := by
  refine Met.ofW (cc := cX7_coins) (maxL := 1) (ret := (some .int)) (by decide) rfl ?_
  intro p e s m args below meth c s₁ B hml hv
  obtain ⟨rfl, hsz, hP, hK, hD0⟩ := hv
  have hx := B.exec
  have hb := B.bytes
  have hr := B.returns
  have hts := atoms_spec (ws := q_X7_coins) B.pre
  have hown : s.vm.findClass RX7 = some m.cls := findClass_of_methodNamed B.named
  have hlocks := B.notSynchronized
  subst hsz
  have hD := hD0.self (sz := s.heap.size)
  generalize hAe : va_A (wd_ec98a0b6 h0 h1 r0 v0 v1 h1 g0 f2) s.heap.size = A at hD ⊢
  have hA : ∀ q : Nat, s.heap.size ≤ q → A q := fun q h => by rw [← hAe]; exact Or.inr h
  have hS : va_S A s.heap s.heap [] := va_S.rf
  generalize hQ : (MQ below _ _ s 0 0 A) = Q
  have hl := lv_entry ([.ref h0]) (n := 1) (Nat.le_of_ble_eq_true rfl)
  rw [lg_entry_eq]
  generalize (lg_sl ([.ref h0]) ++ List.replicate (1 - (lg_sl ([.ref h0])).length) Slot.unset).toArray = ls at hl ⊢
  have hl : lv_has ls 1 [(0, .ref h0)] := hl
  obtain ⟨H, hH⟩ : ∃ H : Heap, H = s.heap := ⟨_, rfl⟩
  obtain ⟨locs, hlocs⟩ : ∃ y : List Loc, y = [] := ⟨_, rfl⟩
  have hS : va_S A s.heap H locs := by rw [hH, hlocs]; exact va_S.rf
  have hP : va_P (dC, dI) vwCl (wd_ec98a0b6 h0 h1 r0 v0 v1 h1 g0 f2) H := by rw [hH]; exact hP
  rw [← hH, ← hlocs]
  refine lv_aload_n hx hb dX7_coins_0 rfl (lv_at hl 0 rfl) ?_
  refine va_get (D := (dC, dI)) (ci := 7) (v := .ref h1) (C := RX7) (T := TX7) (N := 4) hx hb hts (fun _ h => List.mem_cons_of_mem _ (List.mem_append_right _ h)) hown hK hP 0 rfl rfl 0 (by decide) (hts (.fieldLink RX7 11 "LeftArguments$Room" "cells" "[I") (List.mem_cons_of_mem _ (List.mem_append_left _ (List.mem_of_getElem? (i := 0) rfl)))) (fun _ h9 => h9) rfl dX7_coins_1 ?_
  refine lv_bipush (v := 56) hx hb dX7_coins_4 (by decide) ?_
  refine va_iald hx hb hK hP 1 0 rfl rfl (pv_c (x := 56) (n := 58) (by decide)) dX7_coins_6 ?_
  refine lv_topi (fun t1 et1 => ?_)
  subst hQ
  have hP9 := hP.sub (ws' := (wd_ec98a0b6 h0 h1 r0 v0 v1 h1 g0 f2)) [0, 1] rfl
  have hD9 := hD.sub (ws' := (wd_ec98a0b6 h0 h1 r0 v0 v1 h1 g0 f2)) [0, 1] (by decide) rfl
  have hK9 := hK.sub (tys' := []) [] rfl
  exact W.iret (v := t1) hx hb hr (fun t ht hW => ⟨⟨t1, (), rfl, trivial, by rw [ht]; exact hP9, va_K.moved hW.alike hK9, hD9⟩, hS.F ht⟩) hS.2.2 dX7_coins_7
def q_X7_day : List Cond := .code yX7_day cX7_day 1 (some .int) :: (([.fieldLink RX7 11 "LeftArguments$Room" "cells" "[I"] : List Cond) ++ wsX70)
set_option maxHeartbeats 4000000 in
set_option maxRecDepth 100000 in
theorem k_X7_day (l : Launch) (dC : Nat → ClassId) (dI : Nat → Nat → Nat) (h0 : Nat) (h1 : Nat) (r0 : Nat) (v0 : Int32) (v1 : Int32) (g0 : ClassId) (f2 : Nat → Int32) (sz : Nat) : Met l yX7_day q_X7_day ({ frames := 0, cells := 0, slots := 0, locals := 0 }) (va_Pc [.ref h0] (fun U => U.heap.size = sz ∧ va_P (dC, dI) vwCl (wd_ec98a0b6 h0 h1 r0 v0 v1 h1 g0 f2) U.heap ∧ va_K (dC, dI) vwCl [(g0, .int)] U ∧ va_D (fun _ => True) (wd_ec98a0b6 h0 h1 r0 v0 v1 h1 g0 f2))) (va_Qi (fun (r : Int32) (_ : Unit) => True) (fun (_ : Unit) (t : State) => va_P (dC, dI) vwCl (wd_ec98a0b6 h0 h1 r0 v0 v1 h1 g0 f2) t.heap ∧ va_K (dC, dI) vwCl [] t ∧ va_D (va_A (wd_ec98a0b6 h0 h1 r0 v0 v1 h1 g0 f2) sz) (wd_ec98a0b6 h0 h1 r0 v0 v1 h1 g0 f2)) (va_A (wd_ec98a0b6 h0 h1 r0 v0 v1 h1 g0 f2) sz)) 0 0 (va_A (wd_ec98a0b6 h0 h1 r0 v0 v1 h1 g0 f2) sz) := by
  refine Met.ofW (cc := cX7_day) (maxL := 1) (ret := (some .int)) (by decide) rfl ?_
  intro p e s m args below meth c s₁ B hml hv
  obtain ⟨rfl, hsz, hP, hK, hD0⟩ := hv
  have hx := B.exec
  have hb := B.bytes
  have hr := B.returns
  have hts := atoms_spec (ws := q_X7_day) B.pre
  have hown : s.vm.findClass RX7 = some m.cls := findClass_of_methodNamed B.named
  have hlocks := B.notSynchronized
  subst hsz
  have hD := hD0.self (sz := s.heap.size)
  generalize hAe : va_A (wd_ec98a0b6 h0 h1 r0 v0 v1 h1 g0 f2) s.heap.size = A at hD ⊢
  have hA : ∀ q : Nat, s.heap.size ≤ q → A q := fun q h => by rw [← hAe]; exact Or.inr h
  have hS : va_S A s.heap s.heap [] := va_S.rf
  generalize hQ : (MQ below _ _ s 0 0 A) = Q
  have hl := lv_entry ([.ref h0]) (n := 1) (Nat.le_of_ble_eq_true rfl)
  rw [lg_entry_eq]
  generalize (lg_sl ([.ref h0]) ++ List.replicate (1 - (lg_sl ([.ref h0])).length) Slot.unset).toArray = ls at hl ⊢
  have hl : lv_has ls 1 [(0, .ref h0)] := hl
  obtain ⟨H, hH⟩ : ∃ H : Heap, H = s.heap := ⟨_, rfl⟩
  obtain ⟨locs, hlocs⟩ : ∃ y : List Loc, y = [] := ⟨_, rfl⟩
  have hS : va_S A s.heap H locs := by rw [hH, hlocs]; exact va_S.rf
  have hP : va_P (dC, dI) vwCl (wd_ec98a0b6 h0 h1 r0 v0 v1 h1 g0 f2) H := by rw [hH]; exact hP
  rw [← hH, ← hlocs]
  refine lv_aload_n hx hb dX7_day_0 rfl (lv_at hl 0 rfl) ?_
  refine va_get (D := (dC, dI)) (ci := 7) (v := .ref h1) (C := RX7) (T := TX7) (N := 4) hx hb hts (fun _ h => List.mem_cons_of_mem _ (List.mem_append_right _ h)) hown hK hP 0 rfl rfl 0 (by decide) (hts (.fieldLink RX7 11 "LeftArguments$Room" "cells" "[I") (List.mem_cons_of_mem _ (List.mem_append_left _ (List.mem_of_getElem? (i := 0) rfl)))) (fun _ h9 => h9) rfl dX7_day_1 ?_
  refine lv_bipush (v := 57) hx hb dX7_day_4 (by decide) ?_
  refine va_iald hx hb hK hP 1 0 rfl rfl (pv_c (x := 57) (n := 58) (by decide)) dX7_day_6 ?_
  refine lv_topi (fun t1 et1 => ?_)
  subst hQ
  have hP9 := hP.sub (ws' := (wd_ec98a0b6 h0 h1 r0 v0 v1 h1 g0 f2)) [0, 1] rfl
  have hD9 := hD.sub (ws' := (wd_ec98a0b6 h0 h1 r0 v0 v1 h1 g0 f2)) [0, 1] (by decide) rfl
  have hK9 := hK.sub (tys' := []) [] rfl
  exact W.iret (v := t1) hx hb hr (fun t ht hW => ⟨⟨t1, (), rfl, trivial, by rw [ht]; exact hP9, va_K.moved hW.alike hK9, hD9⟩, hS.F ht⟩) hS.2.2 dX7_day_7
def q_X10_wrongHere : List Cond := .code yX10_wrongHere cX10_wrongHere 1 (some .boolean) :: (([.fieldLink RX10 19 "LeftArguments$Tape" "at" "I", .fieldLink RX10 22 "LeftArguments$Tape" "wrongAt" "I"] : List Cond) ++ wsX100)
set_option maxHeartbeats 4000000 in
set_option maxRecDepth 100000 in
theorem k_X10_wrongHere (l : Launch) (dC : Nat → ClassId) (dI : Nat → Nat → Nat) (h0 : Nat) (r0 : Nat) (v0 : Int32) (v1 : Int32) (v2 : Int32) (v3 : Int32) (i_v0 : 0 ≤ v0.toInt ∧ v0.toInt ≤ 240) (i_v1 : 0 ≤ v1.toInt ∧ v1.toInt ≤ 240) (sz : Nat) : Met l yX10_wrongHere q_X10_wrongHere ({ frames := 0, cells := 0, slots := 0, locals := 0 }) (va_Pc [.ref h0] (fun U => U.heap.size = sz ∧ va_P (dC, dI) vwCl (wd_09b0abee h0 r0 v0 v1 v2 v3) U.heap ∧ va_K (dC, dI) vwCl [] U ∧ va_D (fun _ => True) (wd_09b0abee h0 r0 v0 v1 v2 v3))) (va_Qi (fun (r : Int32) (r9 : Int32) => r9 = r) (fun (r : Int32) (t : State) => (∃ (o_h0_3 : Int32), 0 ≤ o_h0_3.toInt ∧ o_h0_3.toInt ≤ 240 ∧ (0 ≤ r.toInt) ∧ (r.toInt ≤ 0) ∧ (o_h0_3.toInt = v1.toInt) ∧ va_P (dC, dI) vwCl (wd_09b0abee h0 r0 v0 v1 o_h0_3 v3) t.heap ∧ va_K (dC, dI) vwCl [] t ∧ va_D (va_A (wd_09b0abee h0 r0 v0 v1 v2 v3) sz) (wd_09b0abee h0 r0 v0 v1 o_h0_3 v3))) (va_A (wd_09b0abee h0 r0 v0 v1 v2 v3) sz)) 0 0 (va_A (wd_09b0abee h0 r0 v0 v1 v2 v3) sz) := by
  refine Met.ofW (cc := cX10_wrongHere) (maxL := 1) (ret := (some .boolean)) (by decide) rfl ?_
  intro p e s m args below meth c s₁ B hml hv
  obtain ⟨i_v0a, i_v0b⟩ := i_v0
  obtain ⟨i_v1a, i_v1b⟩ := i_v1
  obtain ⟨rfl, hsz, hP, hK, hD0⟩ := hv
  have hx := B.exec
  have hb := B.bytes
  have hr := B.returns
  have hts := atoms_spec (ws := q_X10_wrongHere) B.pre
  have hown : s.vm.findClass RX10 = some m.cls := findClass_of_methodNamed B.named
  have hlocks := B.notSynchronized
  subst hsz
  have hD := hD0.self (sz := s.heap.size)
  generalize hAe : va_A (wd_09b0abee h0 r0 v0 v1 v2 v3) s.heap.size = A at hD ⊢
  have hA : ∀ q : Nat, s.heap.size ≤ q → A q := fun q h => by rw [← hAe]; exact Or.inr h
  have hS : va_S A s.heap s.heap [] := va_S.rf
  generalize hQ : (MQ below _ _ s 0 0 A) = Q
  have hl := lv_entry ([.ref h0]) (n := 1) (Nat.le_of_ble_eq_true rfl)
  rw [lg_entry_eq]
  generalize (lg_sl ([.ref h0]) ++ List.replicate (1 - (lg_sl ([.ref h0])).length) Slot.unset).toArray = ls at hl ⊢
  have hl : lv_has ls 1 [(0, .ref h0)] := hl
  obtain ⟨H, hH⟩ : ∃ H : Heap, H = s.heap := ⟨_, rfl⟩
  obtain ⟨locs, hlocs⟩ : ∃ y : List Loc, y = [] := ⟨_, rfl⟩
  have hS : va_S A s.heap H locs := by rw [hH, hlocs]; exact va_S.rf
  have hP : va_P (dC, dI) vwCl (wd_09b0abee h0 r0 v0 v1 v2 v3) H := by rw [hH]; exact hP
  rw [← hH, ← hlocs]
  refine lv_aload_n hx hb dX10_wrongHere_0 rfl (lv_at hl 0 rfl) ?_
  refine lv_aload_n hx hb dX10_wrongHere_1 rfl (lv_at hl 0 rfl) ?_
  refine va_get (D := (dC, dI)) (ci := 10) (v := .int v1) (C := RX10) (T := TX10) (N := 5) hx hb hts (fun _ h => List.mem_cons_of_mem _ (List.mem_append_right _ h)) hown hK hP 0 rfl rfl 2 (by decide) (hts (.fieldLink RX10 19 "LeftArguments$Tape" "at" "I") (List.mem_cons_of_mem _ (List.mem_append_left _ (List.mem_of_getElem? (i := 0) rfl)))) (fun _ h9 => h9) rfl dX10_wrongHere_2 ?_
  refine va_put (D := (dC, dI)) (ci := 10) (v := .int v1) (ty := .int) (C := RX10) (T := TX10) (N := 5) hx hb hts (fun _ h => List.mem_cons_of_mem _ (List.mem_append_right _ h)) tyX10 tyX10_ok nmX10 hown hK hP hD hS 0 rfl rfl 3 (by decide) (hts (.fieldLink RX10 22 "LeftArguments$Tape" "wrongAt" "I") (List.mem_cons_of_mem _ (List.mem_append_left _ (List.mem_of_getElem? (i := 1) rfl)))) (fun _ h9 => h9) rfl (by decide +kernel) rfl rfl (Nat.le_of_ble_eq_true rfl) dX10_wrongHere_5 (fun H locs hP hD hS => ?_)
  have hP : va_P (dC, dI) vwCl (wd_09b0abee h0 r0 v0 v1 v1 v3) H := hP
  have hD : va_D A (wd_09b0abee h0 r0 v0 v1 v1 v3) := hD
  refine lv_iconst (v := 0) hx hb dX10_wrongHere_8 (by decide) ?_
  subst hQ
  have hP9 := hP.sub (ws' := (wd_09b0abee h0 r0 v0 v1 v1 v3)) [0] rfl
  have hD9 := hD.sub (ws' := (wd_09b0abee h0 r0 v0 v1 v1 v3)) [0] (by decide) rfl
  have hK9 := hK.sub (tys' := []) [] rfl
  exact W.zret (v := 0) hx hb hr rfl (fun t ht hW => ⟨⟨0, 0, rfl, rfl, ⟨v1, i_v1a, i_v1b, by first | omega | decide, by first | omega | decide, by rfl, by rw [ht]; exact hP9, va_K.moved hW.alike hK9, hD9⟩⟩, hS.F ht⟩) hS.2.2 dX10_wrongHere_9
def q_J9_floorMod_7cf53 : List Cond := .code yJ9_floorMod_7cf53 cJ9_floorMod_7cf53 3 (some .int) :: (([] : List Cond))
set_option maxHeartbeats 4000000 in
set_option maxRecDepth 100000 in
theorem k_J9_floorMod_7cf53 (l : Launch) (dC : Nat → ClassId) (dI : Nat → Nat → Nat) (v0 : Int32) (sz : Nat) : Met l yJ9_floorMod_7cf53 q_J9_floorMod_7cf53 ({ frames := 0, cells := 0, slots := 0, locals := 0 }) (va_Pc [.int v0, .int 100] (fun U => U.heap.size = sz ∧ va_P (dC, dI) vwCl [] U.heap ∧ va_K (dC, dI) vwCl [] U ∧ va_D (fun _ => True) [])) (va_Qi (fun (r : Int32) (_ : Unit) => 0 ≤ r.toInt ∧ r.toInt ≤ 99) (fun (_ : Unit) (t : State) => va_P (dC, dI) vwCl [] t.heap ∧ va_K (dC, dI) vwCl [] t ∧ va_D (va_A [] sz) []) (va_A [] sz)) 0 0 (va_A [] sz) := by
  refine pv_ofWF (cc := cJ9_floorMod_7cf53) (maxL := 3) (ret := (some .int)) (by decide +kernel) rfl ?_
  intro p e s m args below meth c s₁ B hml hv
  obtain ⟨rfl, hsz, hP, hK, hD0⟩ := hv
  have hx := B.exec
  have hb := B.bytes
  have hr := B.returns
  have hts := atoms_spec (ws := q_J9_floorMod_7cf53) B.pre
  have hown : s.vm.findClass RJ9 = some m.cls := findClass_of_methodNamed B.named
  have hlocks := B.notSynchronized
  subst hsz
  have hD := hD0.self (sz := s.heap.size)
  generalize hAe : va_A [] s.heap.size = A at hD ⊢
  have hA : ∀ q : Nat, s.heap.size ≤ q → A q := fun q h => by rw [← hAe]; exact Or.inr h
  have hS : va_S A s.heap s.heap [] := va_S.rf
  generalize hQ : (MQ below _ _ s 0 0 A) = Q
  have hl := lv_entry ([.int v0, .int 100]) (n := 3) (Nat.le_of_ble_eq_true rfl)
  rw [lg_entry_eq]
  generalize (lg_sl ([.int v0, .int 100]) ++ List.replicate (3 - (lg_sl ([.int v0, .int 100])).length) Slot.unset).toArray = ls at hl ⊢
  have hl : lv_has ls 3 [(0, .int v0), (1, .int 100)] := hl
  obtain ⟨H, hH⟩ : ∃ H : Heap, H = s.heap := ⟨_, rfl⟩
  obtain ⟨locs, hlocs⟩ : ∃ y : List Loc, y = [] := ⟨_, rfl⟩
  have hS : va_S A s.heap H locs := by rw [hH, hlocs]; exact va_S.rf
  have hP : va_P (dC, dI) vwCl [] H := by rw [hH]; exact hP
  rw [← hH, ← hlocs]
  refine lv_iload_n hx hb dJ9_floorMod_7cf53_0 rfl (lv_at hl 0 rfl) ?_
  refine lv_iload_n hx hb dJ9_floorMod_7cf53_1 rfl (lv_at hl 1 rfl) ?_
  refine lv_irem hx hb dJ9_floorMod_7cf53_2 (by decide) ?_
  refine lv_topi (fun t1 et1 => ?_)
  obtain ⟨gat1, gbt1, gct1, gdt1⟩ := pv_rm100 et1 (by decide)
  refine lv_istore_n (lv' := [(2, .int t1), (0, .int v0), (1, .int 100)]) hx hb dJ9_floorMod_7cf53_3 rfl hl (by decide) rfl (fun ls hl => ?_)
  refine lv_iload_n hx hb dJ9_floorMod_7cf53_4 rfl (lv_at hl 1 rfl) ?_
  refine lv_iload_n hx hb dJ9_floorMod_7cf53_5 rfl (lv_at hl 2 rfl) ?_
  refine lv_ixor hx hb dJ9_floorMod_7cf53_6 ?_
  refine lv_topi (fun t2 et2 => ?_)
  refine lv_if_ge (tgt := 18) hx hb dJ9_floorMod_7cf53_7 (by decide) (fun c3 => ?_) (fun c3 => ?_)
  · skip
    have fc3 : 0 ≤ t2.toInt := Int32.le_iff_toInt_le.mp c3
    have xc3 : t2.toInt < 0 ↔ v0.toInt < 0 := pv_xorR et2 (by decide)
    refine lv_iload_n hx hb dJ9_floorMod_7cf53_18 rfl (lv_at hl 0 rfl) ?_
    subst hQ
    have hP9 := hP.sub (ws' := []) [] rfl
    have hD9 := hD.sub (ws' := []) [] (by decide) rfl
    have hK9 := hK.sub (tys' := []) [] rfl
    exact W.iret (v := t1) hx hb hr (fun t ht hW => ⟨⟨t1, (), rfl, ⟨by first | omega | decide, by first | omega | decide⟩, by rw [ht]; exact hP9, va_K.moved hW.alike hK9, hD9⟩, hS.F ht⟩) hS.2.2 dJ9_floorMod_7cf53_19
  · skip
    have fc3 : ¬ (0 ≤ t2.toInt) := fun h9 => c3 (Int32.le_iff_toInt_le.mpr h9)
    have xc3 : t2.toInt < 0 ↔ v0.toInt < 0 := pv_xorR et2 (by decide)
    refine lv_iload_n hx hb dJ9_floorMod_7cf53_10 rfl (lv_at hl 0 rfl) ?_
    refine lv_if_eq (tgt := 18) hx hb dJ9_floorMod_7cf53_11 (by decide) (fun c4 => ?_) (fun c4 => ?_)
    · skip
      have fc4 : t1.toInt = 0 := congrArg Int32.toInt c4
      refine lv_iload_n hx hb dJ9_floorMod_7cf53_18 rfl (lv_at hl 0 rfl) ?_
      subst hQ
      have hP9 := hP.sub (ws' := []) [] rfl
      have hD9 := hD.sub (ws' := []) [] (by decide) rfl
      have hK9 := hK.sub (tys' := []) [] rfl
      exact W.iret (v := t1) hx hb hr (fun t ht hW => ⟨⟨t1, (), rfl, ⟨by first | omega | decide, by first | omega | decide⟩, by rw [ht]; exact hP9, va_K.moved hW.alike hK9, hD9⟩, hS.F ht⟩) hS.2.2 dJ9_floorMod_7cf53_19
    · skip
      have fc4 : ¬ (t1.toInt = 0) := fun h9 => c4 (Int32.toInt_inj.mp h9)
      refine lv_iload_n hx hb dJ9_floorMod_7cf53_14 rfl (lv_at hl 0 rfl) ?_
      refine lv_iload_n hx hb dJ9_floorMod_7cf53_15 rfl (lv_at hl 2 rfl) ?_
      refine lv_iadd hx hb dJ9_floorMod_7cf53_16 ?_
      refine lv_topi (fun t5 et5 => ?_)
      have gt5 : t5.toInt = t1.toInt + 100 := pv_add (a := t1.toInt) (b := 100) et5 rfl (by decide) (by omega) (by omega)
      subst hQ
      have hP9 := hP.sub (ws' := []) [] rfl
      have hD9 := hD.sub (ws' := []) [] (by decide) rfl
      have hK9 := hK.sub (tys' := []) [] rfl
      exact W.iret (v := t5) hx hb hr (fun t ht hW => ⟨⟨t5, (), rfl, ⟨by first | omega | decide, by first | omega | decide⟩, by rw [ht]; exact hP9, va_K.moved hW.alike hK9, hD9⟩, hS.F ht⟩) hS.2.2 dJ9_floorMod_7cf53_17
def q_X1_rowOf : List Cond := .code yX1_rowOf cX1_rowOf 1 (some .int) :: (([.code yJ9_floorMod_7cf53 cJ9_floorMod_7cf53 3 (some .int), .initialized RJ9, .static yJ9_floorMod_7cf53, .methodLink RX1 19 yJ9_floorMod_7cf53] : List Cond))
set_option maxRecDepth 20000 in
theorem g_X1_rowOf_0 : GoodIn q_X1_rowOf (va_wsS RX1 19 yJ9_floorMod_7cf53 q_J9_floorMod_7cf53) := goodIn_app (goodIn_r _ [4, 3, 2] rfl (by decide +kernel)) (goodIn_r (.code yJ9_floorMod_7cf53 cJ9_floorMod_7cf53 3 (some .int) :: []) [1] rfl (by decide +kernel))
set_option maxHeartbeats 4000000 in
set_option maxRecDepth 100000 in
theorem k_X1_rowOf (l : Launch) (dC : Nat → ClassId) (dI : Nat → Nat → Nat) (v0 : Int32) (sz : Nat) : Met l yX1_rowOf q_X1_rowOf ({ frames := 1, cells := 0, slots := 0, locals := 22 }) (va_Pc [.int v0] (fun U => U.heap.size = sz ∧ va_P (dC, dI) vwCl [] U.heap ∧ va_K (dC, dI) vwCl [] U ∧ va_D (fun _ => True) [])) (va_Qi (fun (r : Int32) (_ : Unit) => 0 ≤ r.toInt ∧ r.toInt ≤ 297) (fun (_ : Unit) (t : State) => va_P (dC, dI) vwCl [] t.heap ∧ va_K (dC, dI) vwCl [] t ∧ va_D (va_A [] sz) []) (va_A [] sz)) 0 0 (va_A [] sz) := by
  refine Met.ofW (cc := cX1_rowOf) (maxL := 1) (ret := (some .int)) (by decide) rfl ?_
  intro p e s m args below meth c s₁ B hml hv
  obtain ⟨rfl, hsz, hP, hK, hD0⟩ := hv
  have hx := B.exec
  have hb := B.bytes
  have hr := B.returns
  have hts := atoms_spec (ws := q_X1_rowOf) B.pre
  have hown : s.vm.findClass RX1 = some m.cls := findClass_of_methodNamed B.named
  have hlocks := B.notSynchronized
  subst hsz
  have hD := hD0.self (sz := s.heap.size)
  generalize hAe : va_A [] s.heap.size = A at hD ⊢
  have hA : ∀ q : Nat, s.heap.size ≤ q → A q := fun q h => by rw [← hAe]; exact Or.inr h
  have hS : va_S A s.heap s.heap [] := va_S.rf
  generalize hQ : (MQ below _ _ s 0 0 A) = Q
  have hl := lv_entry ([.int v0]) (n := 1) (Nat.le_of_ble_eq_true rfl)
  rw [lg_entry_eq]
  generalize (lg_sl ([.int v0]) ++ List.replicate (1 - (lg_sl ([.int v0])).length) Slot.unset).toArray = ls at hl ⊢
  have hl : lv_has ls 1 [(0, .int v0)] := hl
  obtain ⟨H, hH⟩ : ∃ H : Heap, H = s.heap := ⟨_, rfl⟩
  obtain ⟨locs, hlocs⟩ : ∃ y : List Loc, y = [] := ⟨_, rfl⟩
  have hS : va_S A s.heap H locs := by rw [hH, hlocs]; exact va_S.rf
  have hP : va_P (dC, dI) vwCl [] H := by rw [hH]; exact hP
  rw [← hH, ← hlocs]
  refine lv_iload_n hx hb dX1_rowOf_0 rfl (lv_at hl 0 rfl) ?_
  refine lv_bipush (v := 100) hx hb dX1_rowOf_1 (by decide) ?_
  have hPc := hP.sub (ws' := []) [] rfl
  have hDc := hD.sub (ws' := []) [] (by decide) rfl
  have hKc := hK.sub (tys' := []) [] rfl
  have hFc := va_free (wc := []) hD hS hA [] rfl
  refine va_calli (va_runS (As := [.int v0, .int 100]) (rest := []) ⟨hx, hb, hml, hown, hts⟩ (k_J9_floorMod_7cf53 l dC dI v0  H.size) (va_cwS 2 hts g_X1_rowOf_0 rfl rfl rfl (by decide +kernel) ⟨Nat.le_of_ble_eq_true rfl, Nat.le_of_ble_eq_true rfl⟩) (pv_PS hPc hKc hDc) rfl rfl hl.1 rfl (lv_room (Nat.le_of_ble_eq_true rfl)) dX1_rowOf_3 ⟨Nat.le_of_ble_eq_true rfl, Nat.le_of_ble_eq_true rfl⟩) hS (fun q _ h => hFc q h) hFc (fun ra1 u t H1 locs ht hvm hwra1 hB hz1 hk1 hS => ?_)
  obtain ⟨hP1, hK1, hD1⟩ := hB
  rw [ht] at hP1
  obtain ⟨hP2, hD2⟩ := va_join (wr := []) (w1 := []) hP hD [] [] rfl rfl (by decide) (by decide) hk1 hFc hP1 hD1
  clear hP hD hPc hDc hKc hFc hP1 hK1 hD1 hk1 hz1
  generalize H1 = H at hP2 hS ⊢
  have hP : va_P (dC, dI) vwCl [] H := hP2
  have hD : va_D A [] := hD2
  clear hP2 hD2
  obtain ⟨wa_ra1, wb_ra1⟩ := hwra1
  have wa_ra1 : 0 ≤ ra1.toInt := wa_ra1
  have wb_ra1 : ra1.toInt ≤ 99 := wb_ra1
  refine lv_iconst (v := 3) hx hb dX1_rowOf_6 (by decide) ?_
  refine lv_imul hx hb dX1_rowOf_7 ?_
  refine lv_topi (fun t2 et2 => ?_)
  have gt2 : t2.toInt = ra1.toInt * 3 := pv_mul (a := ra1.toInt) (b := 3) et2 rfl (by decide) (by omega) (by omega)
  subst hQ
  have hP9 := hP.sub (ws' := []) [] rfl
  have hD9 := hD.sub (ws' := []) [] (by decide) rfl
  have hK9 := hK.sub (tys' := []) [] rfl
  exact W.iret (v := t2) hx hb hr (fun t ht hW => ⟨⟨t2, (), rfl, ⟨by first | omega | decide, by first | omega | decide⟩, by rw [ht]; exact hP9, va_K.moved hW.alike hK9, hD9⟩, hS.F ht⟩) hS.2.2 dX1_rowOf_8
def q_X7_set : List Cond := .code yX7_set cX7_set 4 none :: (([.fieldLink RX7 11 "LeftArguments$Room" "cells" "[I"] : List Cond) ++ wsX70)
set_option maxHeartbeats 4000000 in
set_option maxRecDepth 100000 in
theorem k_X7_set (l : Launch) (dC : Nat → ClassId) (dI : Nat → Nat → Nat) (h0 : Nat) (h1 : Nat) (r0 : Nat) (v0 : Int32) (v1 : Int32) (g0 : ClassId) (f2 : Nat → Int32) (v3 : Int32) (v4 : Int32) (v5 : Int32) (sz : Nat) : Met l yX7_set q_X7_set ({ frames := 0, cells := 0, slots := 0, locals := 0 }) (va_Pc [.ref h0, .int v3, .int v4, .int v5] (fun U => U.heap.size = sz ∧ va_P (dC, dI) vwCl (wd_ec98a0b6 h0 h1 r0 v0 v1 h1 g0 f2) U.heap ∧ va_K (dC, dI) vwCl [(g0, .int)] U ∧ va_D (fun _ => True) (wd_ec98a0b6 h0 h1 r0 v0 v1 h1 g0 f2))) (va_Qv (fun (_ : Unit) => True) (fun (_ : Unit) (t : State) => ∃ (o_h1 : Nat → Int32), va_P (dC, dI) vwCl (wd_ec98a0b6 h0 h1 r0 v0 v1 h1 g0 o_h1) t.heap ∧ va_K (dC, dI) vwCl [] t ∧ va_D (va_A (wd_ec98a0b6 h0 h1 r0 v0 v1 h1 g0 f2) sz) (wd_ec98a0b6 h0 h1 r0 v0 v1 h1 g0 o_h1)) (va_A (wd_ec98a0b6 h0 h1 r0 v0 v1 h1 g0 f2) sz)) 0 0 (va_A (wd_ec98a0b6 h0 h1 r0 v0 v1 h1 g0 f2) sz) := by
  refine Met.ofW (cc := cX7_set) (maxL := 4) (ret := none) (by decide) rfl ?_
  intro p e s m args below meth c s₁ B hml hv
  obtain ⟨rfl, hsz, hP, hK, hD0⟩ := hv
  have hx := B.exec
  have hb := B.bytes
  have hr := B.returns
  have hts := atoms_spec (ws := q_X7_set) B.pre
  have hown : s.vm.findClass RX7 = some m.cls := findClass_of_methodNamed B.named
  have hlocks := B.notSynchronized
  subst hsz
  have hD := hD0.self (sz := s.heap.size)
  generalize hAe : va_A (wd_ec98a0b6 h0 h1 r0 v0 v1 h1 g0 f2) s.heap.size = A at hD ⊢
  have hA : ∀ q : Nat, s.heap.size ≤ q → A q := fun q h => by rw [← hAe]; exact Or.inr h
  have hS : va_S A s.heap s.heap [] := va_S.rf
  generalize hQ : (MQ below _ _ s 0 0 A) = Q
  have hl := lv_entry ([.ref h0, .int v3, .int v4, .int v5]) (n := 4) (Nat.le_of_ble_eq_true rfl)
  rw [lg_entry_eq]
  generalize (lg_sl ([.ref h0, .int v3, .int v4, .int v5]) ++ List.replicate (4 - (lg_sl ([.ref h0, .int v3, .int v4, .int v5])).length) Slot.unset).toArray = ls at hl ⊢
  have hl : lv_has ls 4 [(0, .ref h0), (1, .int v3), (2, .int v4), (3, .int v5)] := hl
  obtain ⟨H, hH⟩ : ∃ H : Heap, H = s.heap := ⟨_, rfl⟩
  obtain ⟨locs, hlocs⟩ : ∃ y : List Loc, y = [] := ⟨_, rfl⟩
  have hS : va_S A s.heap H locs := by rw [hH, hlocs]; exact va_S.rf
  have hP : va_P (dC, dI) vwCl (wd_ec98a0b6 h0 h1 r0 v0 v1 h1 g0 f2) H := by rw [hH]; exact hP
  rw [← hH, ← hlocs]
  refine lv_iload_n hx hb dX7_set_0 rfl (lv_at hl 1 rfl) ?_
  have hJ2 : ∀ (fn1 : Nat → Int32) (H : Heap) (locs : List Loc) (ls : Array Slot), va_P (dC, dI) vwCl (wd_ec98a0b6 h0 h1 r0 v0 v1 h1 g0 fn1) H → va_D A (wd_ec98a0b6 h0 h1 r0 v0 v1 h1 g0 fn1) → va_S A s.heap H locs → lv_has ls 4 [(0, .ref h0), (1, .int v3), (2, .int v4), (3, .int v5)] → W p l e ({ frames := 0, cells := 0, slots := 0, locals := 0 }) s m ([.ref h0, .int v3, .int v4, .int v5] : List Value).toArray below meth c H locs 0 0 Q (F0 m 32 ls []) := by
    intro fn1 H locs ls hP hD hS hl
    subst hQ
    have hP9 := hP.sub (ws' := (wd_ec98a0b6 h0 h1 r0 v0 v1 h1 g0 fn1)) [0, 1] rfl
    have hD9 := hD.sub (ws' := (wd_ec98a0b6 h0 h1 r0 v0 v1 h1 g0 fn1)) [0, 1] (by decide) rfl
    have hK9 := hK.sub (tys' := []) [] rfl
    exact W.vret hx hb hr (fun t ht hW => ⟨⟨(), rfl, trivial, fn1, by rw [ht]; exact hP9, va_K.moved hW.alike hK9, hD9⟩, hS.F ht⟩) hS.2.2 dX7_set_32
  refine lv_if_lt (tgt := 32) hx hb dX7_set_1 (by decide) (fun c3 => ?_) (fun c3 => ?_)
  · skip
    have fc3 : v3.toInt < 0 := Int32.lt_iff_toInt_lt.mp c3
    exact hJ2 f2 H locs ls hP hD hS (lv_sub hl [0, 1, 2, 3] rfl)
  · skip
    have fc3 : ¬ (v3.toInt < 0) := fun h9 => c3 (Int32.lt_iff_toInt_lt.mpr h9)
    refine lv_iload_n hx hb dX7_set_4 rfl (lv_at hl 1 rfl) ?_
    refine lv_bipush (v := 8) hx hb dX7_set_5 (by decide) ?_
    refine lv_icmp_ge (tgt := 32) hx hb dX7_set_7 (by decide) (fun c4 => ?_) (fun c4 => ?_)
    · skip
      have fc4 : 8 ≤ v3.toInt := Int32.le_iff_toInt_le.mp c4
      exact hJ2 f2 H locs ls hP hD hS (lv_sub hl [0, 1, 2, 3] rfl)
    · skip
      have fc4 : ¬ (8 ≤ v3.toInt) := fun h9 => c4 (Int32.le_iff_toInt_le.mpr h9)
      refine lv_iload_n hx hb dX7_set_10 rfl (lv_at hl 2 rfl) ?_
      refine lv_if_lt (tgt := 32) hx hb dX7_set_11 (by decide) (fun c5 => ?_) (fun c5 => ?_)
      · skip
        have fc5 : v4.toInt < 0 := Int32.lt_iff_toInt_lt.mp c5
        exact hJ2 f2 H locs ls hP hD hS (lv_sub hl [0, 1, 2, 3] rfl)
      · skip
        have fc5 : ¬ (v4.toInt < 0) := fun h9 => c5 (Int32.lt_iff_toInt_lt.mpr h9)
        refine lv_iload_n hx hb dX7_set_14 rfl (lv_at hl 2 rfl) ?_
        refine lv_bipush (v := 7) hx hb dX7_set_15 (by decide) ?_
        refine lv_icmp_ge (tgt := 32) hx hb dX7_set_17 (by decide) (fun c6 => ?_) (fun c6 => ?_)
        · skip
          have fc6 : 7 ≤ v4.toInt := Int32.le_iff_toInt_le.mp c6
          exact hJ2 f2 H locs ls hP hD hS (lv_sub hl [0, 1, 2, 3] rfl)
        · skip
          have fc6 : ¬ (7 ≤ v4.toInt) := fun h9 => c6 (Int32.le_iff_toInt_le.mpr h9)
          refine lv_aload_n hx hb dX7_set_20 rfl (lv_at hl 0 rfl) ?_
          refine va_get (D := (dC, dI)) (ci := 7) (v := .ref h1) (C := RX7) (T := TX7) (N := 4) hx hb hts (fun _ h => List.mem_cons_of_mem _ (List.mem_append_right _ h)) hown hK hP 0 rfl rfl 0 (by decide) (hts (.fieldLink RX7 11 "LeftArguments$Room" "cells" "[I") (List.mem_cons_of_mem _ (List.mem_append_left _ (List.mem_of_getElem? (i := 0) rfl)))) (fun _ h9 => h9) rfl dX7_set_21 ?_
          refine lv_iload_n hx hb dX7_set_24 rfl (lv_at hl 2 rfl) ?_
          refine lv_bipush (v := 8) hx hb dX7_set_25 (by decide) ?_
          refine lv_imul hx hb dX7_set_27 ?_
          refine lv_topi (fun t7 et7 => ?_)
          have gt7 : t7.toInt = v4.toInt * 8 := pv_mul (a := v4.toInt) (b := 8) et7 rfl (by decide) (by omega) (by omega)
          refine lv_iload_n hx hb dX7_set_28 rfl (lv_at hl 1 rfl) ?_
          refine lv_iadd hx hb dX7_set_29 ?_
          refine lv_topi (fun t8 et8 => ?_)
          have gt8 : t8.toInt = t7.toInt + v3.toInt := pv_add (a := t7.toInt) (b := v3.toInt) et8 rfl rfl (by omega) (by omega)
          refine lv_iload_n hx hb dX7_set_30 rfl (lv_at hl 3 rfl) ?_
          refine va_iast hx hb hK hP hD hS 1 0 rfl rfl (vp_in_iff.mpr ⟨by omega, by omega⟩) dX7_set_31 (fun H locs hP hD hS => ?_)
          obtain ⟨fn9, efn9⟩ : ∃ g : Nat → Int32, g = upd f2 (Int32.toNatClampNeg t8) v5 := ⟨_, rfl⟩
          rw [← efn9] at hP hD
          have hP : va_P (dC, dI) vwCl (wd_ec98a0b6 h0 h1 r0 v0 v1 h1 g0 fn9) H := hP
          have hD : va_D A (wd_ec98a0b6 h0 h1 r0 v0 v1 h1 g0 fn9) := hD
          exact hJ2 fn9 H locs ls hP hD hS (lv_sub hl [0, 1, 2, 3] rfl)
def q_X7_empty : List Cond := .code yX7_empty cX7_empty 2 none :: (([.code yX7_set cX7_set 4 none, .fieldLink RX7 11 "LeftArguments$Room" "cells" "[I", .initialized RX7, .instanceMethod yX7_set, .selects RX7 yX7_set yX7_set, .methodLink RX7 58 yX7_set] : List Cond) ++ wsX70)
set_option maxRecDepth 20000 in
theorem g_X7_empty_0 : GoodIn q_X7_empty (wsV RX7 58 RX7 yX7_set q_X7_set) := goodIn_app (goodIn_r _ [6, 4, 5, 3] rfl (by decide +kernel)) (goodIn_ca (goodIn_r (.code yX7_set cX7_set 4 none :: [.fieldLink RX7 11 "LeftArguments$Room" "cells" "[I"]) [1, 2] rfl (by decide +kernel)) (goodIn_sub (fun _ h => List.mem_cons_of_mem _ (List.mem_append_right _ h)) gwX7))
set_option maxHeartbeats 4000000 in
set_option maxRecDepth 100000 in
theorem k_X7_empty (l : Launch) (dC : Nat → ClassId) (dI : Nat → Nat → Nat) (h0 : Nat) (h1 : Nat) (r0 : Nat) (v0 : Int32) (v1 : Int32) (g0 : ClassId) (f2 : Nat → Int32) (v3 : Int32) (sz : Nat) : Met l yX7_empty q_X7_empty ({ frames := 1, cells := 0, slots := 0, locals := 23 }) (va_Pc [.ref h0, .int v3] (fun U => U.heap.size = sz ∧ va_P (dC, dI) vwCl (wd_ec98a0b6 h0 h1 r0 v0 v1 h1 g0 f2) U.heap ∧ va_K (dC, dI) vwCl [(g0, .int)] U ∧ va_D (fun _ => True) (wd_ec98a0b6 h0 h1 r0 v0 v1 h1 g0 f2))) (va_Qv (fun (_ : Unit) => True) (fun (_ : Unit) (t : State) => ∃ (o_h1 : Nat → Int32), va_P (dC, dI) vwCl (wd_ec98a0b6 h0 h1 r0 v0 v1 h1 g0 o_h1) t.heap ∧ va_K (dC, dI) vwCl [] t ∧ va_D (va_A (wd_ec98a0b6 h0 h1 r0 v0 v1 h1 g0 f2) sz) (wd_ec98a0b6 h0 h1 r0 v0 v1 h1 g0 o_h1)) (va_A (wd_ec98a0b6 h0 h1 r0 v0 v1 h1 g0 f2) sz)) 0 0 (va_A (wd_ec98a0b6 h0 h1 r0 v0 v1 h1 g0 f2) sz) := by
  refine Met.ofW (cc := cX7_empty) (maxL := 2) (ret := none) (by decide) rfl ?_
  intro p e s m args below meth c s₁ B hml hv
  obtain ⟨rfl, hsz, hP, hK, hD0⟩ := hv
  have hx := B.exec
  have hb := B.bytes
  have hr := B.returns
  have hts := atoms_spec (ws := q_X7_empty) B.pre
  have hown : s.vm.findClass RX7 = some m.cls := findClass_of_methodNamed B.named
  have hlocks := B.notSynchronized
  subst hsz
  have hD := hD0.self (sz := s.heap.size)
  generalize hAe : va_A (wd_ec98a0b6 h0 h1 r0 v0 v1 h1 g0 f2) s.heap.size = A at hD ⊢
  have hA : ∀ q : Nat, s.heap.size ≤ q → A q := fun q h => by rw [← hAe]; exact Or.inr h
  have hS : va_S A s.heap s.heap [] := va_S.rf
  generalize hQ : (MQ below _ _ s 0 0 A) = Q
  have hl := lv_entry ([.ref h0, .int v3]) (n := 2) (Nat.le_of_ble_eq_true rfl)
  rw [lg_entry_eq]
  generalize (lg_sl ([.ref h0, .int v3]) ++ List.replicate (2 - (lg_sl ([.ref h0, .int v3])).length) Slot.unset).toArray = ls at hl ⊢
  have hl : lv_has ls 2 [(0, .ref h0), (1, .int v3)] := hl
  obtain ⟨H, hH⟩ : ∃ H : Heap, H = s.heap := ⟨_, rfl⟩
  obtain ⟨locs, hlocs⟩ : ∃ y : List Loc, y = [] := ⟨_, rfl⟩
  have hS : va_S A s.heap H locs := by rw [hH, hlocs]; exact va_S.rf
  have hP : va_P (dC, dI) vwCl (wd_ec98a0b6 h0 h1 r0 v0 v1 h1 g0 f2) H := by rw [hH]; exact hP
  rw [← hH, ← hlocs]
  refine lv_aload_n hx hb dX7_empty_0 rfl (lv_at hl 0 rfl) ?_
  refine lv_iload_n hx hb dX7_empty_1 rfl (lv_at hl 1 rfl) ?_
  refine lv_iconst (v := 0) hx hb dX7_empty_2 (by decide) ?_
  refine lv_iconst (v := 0) hx hb dX7_empty_3 (by decide) ?_
  have hPc := hP.sub (ws' := (wd_ec98a0b6 h0 h1 r0 v0 v1 h1 g0 f2)) [0, 1] rfl
  have hDc := hD.sub (ws' := (wd_ec98a0b6 h0 h1 r0 v0 v1 h1 g0 f2)) [0, 1] (by decide) rfl
  have hKc := hK.sub (tys' := [(g0, .int)]) [0] rfl
  have hFc := va_free (wc := (wd_ec98a0b6 h0 h1 r0 v0 v1 h1 g0 f2)) hD hS hA [0, 1] rfl
  refine va_callv (va_runV (As := [.int v3, .int 0, .int 0]) (rest := []) ⟨hx, hb, hml, hown, hts⟩ (k_X7_set l dC dI h0 h1 r0 v0 v1 g0 f2 v3 0 0  H.size) (cwV 3 hts g_X7_empty_0 rfl rfl rfl (by decide +kernel) ⟨Nat.le_of_ble_eq_true rfl, Nat.le_of_ble_eq_true rfl⟩) (pv_PV7 hPc hKc hDc (q0 := 0) rfl) rfl rfl hl.1 rfl (lv_room (Nat.le_of_ble_eq_true rfl)) dX7_empty_4 ⟨Nat.le_of_ble_eq_true rfl, Nat.le_of_ble_eq_true rfl⟩) hS (fun q _ h => hFc q h) hFc (fun u t H1 locs ht hvm hwra1 hB hz1 hk1 hS => ?_)
  obtain ⟨fn2, hP1, hK1, hD1⟩ := hB
  rw [ht] at hP1
  obtain ⟨hP2, hD2⟩ := va_join (wr := []) (w1 := (wd_ec98a0b6 h0 h1 r0 v0 v1 h1 g0 fn2)) hP hD [0, 1] [] rfl rfl (by decide) (by decide) hk1 hFc hP1 hD1
  clear hP hD hPc hDc hKc hFc hP1 hK1 hD1 hk1 hz1
  generalize H1 = H at hP2 hS ⊢
  have hP : va_P (dC, dI) vwCl (wd_ec98a0b6 h0 h1 r0 v0 v1 h1 g0 fn2) H := hP2
  have hD : va_D A (wd_ec98a0b6 h0 h1 r0 v0 v1 h1 g0 fn2) := hD2
  clear hP2 hD2
  subst hQ
  have hP9 := hP.sub (ws' := (wd_ec98a0b6 h0 h1 r0 v0 v1 h1 g0 fn2)) [0, 1] rfl
  have hD9 := hD.sub (ws' := (wd_ec98a0b6 h0 h1 r0 v0 v1 h1 g0 fn2)) [0, 1] (by decide) rfl
  have hK9 := hK.sub (tys' := []) [] rfl
  exact W.vret hx hb hr (fun t ht hW => ⟨⟨(), rfl, trivial, fn2, by rw [ht]; exact hP9, va_K.moved hW.alike hK9, hD9⟩, hS.F ht⟩) hS.2.2 dX7_empty_7
def q_X7_setDay : List Cond := .code yX7_setDay cX7_setDay 2 none :: (([.fieldLink RX7 11 "LeftArguments$Room" "cells" "[I"] : List Cond) ++ wsX70)
set_option maxHeartbeats 4000000 in
set_option maxRecDepth 100000 in
theorem k_X7_setDay (l : Launch) (dC : Nat → ClassId) (dI : Nat → Nat → Nat) (h0 : Nat) (h1 : Nat) (r0 : Nat) (v0 : Int32) (v1 : Int32) (g0 : ClassId) (f2 : Nat → Int32) (v3 : Int32) (sz : Nat) : Met l yX7_setDay q_X7_setDay ({ frames := 0, cells := 0, slots := 0, locals := 0 }) (va_Pc [.ref h0, .int v3] (fun U => U.heap.size = sz ∧ va_P (dC, dI) vwCl (wd_ec98a0b6 h0 h1 r0 v0 v1 h1 g0 f2) U.heap ∧ va_K (dC, dI) vwCl [(g0, .int)] U ∧ va_D (fun _ => True) (wd_ec98a0b6 h0 h1 r0 v0 v1 h1 g0 f2))) (va_Qv (fun (_ : Unit) => True) (fun (_ : Unit) (t : State) => ∃ (o_h1 : Nat → Int32), va_P (dC, dI) vwCl (wd_ec98a0b6 h0 h1 r0 v0 v1 h1 g0 o_h1) t.heap ∧ va_K (dC, dI) vwCl [] t ∧ va_D (va_A (wd_ec98a0b6 h0 h1 r0 v0 v1 h1 g0 f2) sz) (wd_ec98a0b6 h0 h1 r0 v0 v1 h1 g0 o_h1)) (va_A (wd_ec98a0b6 h0 h1 r0 v0 v1 h1 g0 f2) sz)) 0 0 (va_A (wd_ec98a0b6 h0 h1 r0 v0 v1 h1 g0 f2) sz) := by
  refine Met.ofW (cc := cX7_setDay) (maxL := 2) (ret := none) (by decide) rfl ?_
  intro p e s m args below meth c s₁ B hml hv
  obtain ⟨rfl, hsz, hP, hK, hD0⟩ := hv
  have hx := B.exec
  have hb := B.bytes
  have hr := B.returns
  have hts := atoms_spec (ws := q_X7_setDay) B.pre
  have hown : s.vm.findClass RX7 = some m.cls := findClass_of_methodNamed B.named
  have hlocks := B.notSynchronized
  subst hsz
  have hD := hD0.self (sz := s.heap.size)
  generalize hAe : va_A (wd_ec98a0b6 h0 h1 r0 v0 v1 h1 g0 f2) s.heap.size = A at hD ⊢
  have hA : ∀ q : Nat, s.heap.size ≤ q → A q := fun q h => by rw [← hAe]; exact Or.inr h
  have hS : va_S A s.heap s.heap [] := va_S.rf
  generalize hQ : (MQ below _ _ s 0 0 A) = Q
  have hl := lv_entry ([.ref h0, .int v3]) (n := 2) (Nat.le_of_ble_eq_true rfl)
  rw [lg_entry_eq]
  generalize (lg_sl ([.ref h0, .int v3]) ++ List.replicate (2 - (lg_sl ([.ref h0, .int v3])).length) Slot.unset).toArray = ls at hl ⊢
  have hl : lv_has ls 2 [(0, .ref h0), (1, .int v3)] := hl
  obtain ⟨H, hH⟩ : ∃ H : Heap, H = s.heap := ⟨_, rfl⟩
  obtain ⟨locs, hlocs⟩ : ∃ y : List Loc, y = [] := ⟨_, rfl⟩
  have hS : va_S A s.heap H locs := by rw [hH, hlocs]; exact va_S.rf
  have hP : va_P (dC, dI) vwCl (wd_ec98a0b6 h0 h1 r0 v0 v1 h1 g0 f2) H := by rw [hH]; exact hP
  rw [← hH, ← hlocs]
  refine lv_aload_n hx hb dX7_setDay_0 rfl (lv_at hl 0 rfl) ?_
  refine va_get (D := (dC, dI)) (ci := 7) (v := .ref h1) (C := RX7) (T := TX7) (N := 4) hx hb hts (fun _ h => List.mem_cons_of_mem _ (List.mem_append_right _ h)) hown hK hP 0 rfl rfl 0 (by decide) (hts (.fieldLink RX7 11 "LeftArguments$Room" "cells" "[I") (List.mem_cons_of_mem _ (List.mem_append_left _ (List.mem_of_getElem? (i := 0) rfl)))) (fun _ h9 => h9) rfl dX7_setDay_1 ?_
  refine lv_bipush (v := 57) hx hb dX7_setDay_4 (by decide) ?_
  refine lv_iload_n hx hb dX7_setDay_6 rfl (lv_at hl 1 rfl) ?_
  refine va_iast hx hb hK hP hD hS 1 0 rfl rfl (pv_c (x := 57) (n := 58) (by decide)) dX7_setDay_7 (fun H locs hP hD hS => ?_)
  obtain ⟨fn1, efn1⟩ : ∃ g : Nat → Int32, g = upd f2 (Int32.toNatClampNeg 57) v3 := ⟨_, rfl⟩
  rw [← efn1] at hP hD
  have hP : va_P (dC, dI) vwCl (wd_ec98a0b6 h0 h1 r0 v0 v1 h1 g0 fn1) H := hP
  have hD : va_D A (wd_ec98a0b6 h0 h1 r0 v0 v1 h1 g0 fn1) := hD
  subst hQ
  have hP9 := hP.sub (ws' := (wd_ec98a0b6 h0 h1 r0 v0 v1 h1 g0 fn1)) [0, 1] rfl
  have hD9 := hD.sub (ws' := (wd_ec98a0b6 h0 h1 r0 v0 v1 h1 g0 fn1)) [0, 1] (by decide) rfl
  have hK9 := hK.sub (tys' := []) [] rfl
  exact W.vret hx hb hr (fun t ht hW => ⟨⟨(), rfl, trivial, fn1, by rw [ht]; exact hP9, va_K.moved hW.alike hK9, hD9⟩, hS.F ht⟩) hS.2.2 dX7_setDay_8
def q_X10_rewind : List Cond := .code yX10_rewind cX10_rewind 1 none :: (([.fieldLink RX10 19 "LeftArguments$Tape" "at" "I", .fieldLink RX10 22 "LeftArguments$Tape" "wrongAt" "I"] : List Cond) ++ wsX100)
set_option maxHeartbeats 4000000 in
set_option maxRecDepth 100000 in
theorem k_X10_rewind (l : Launch) (dC : Nat → ClassId) (dI : Nat → Nat → Nat) (h0 : Nat) (r0 : Nat) (v0 : Int32) (v1 : Int32) (v2 : Int32) (v3 : Int32) (i_v0 : 0 ≤ v0.toInt ∧ v0.toInt ≤ 240) (sz : Nat) : Met l yX10_rewind q_X10_rewind ({ frames := 0, cells := 0, slots := 0, locals := 0 }) (va_Pc [.ref h0] (fun U => U.heap.size = sz ∧ va_P (dC, dI) vwCl (wd_09b0abee h0 r0 v0 v1 v2 v3) U.heap ∧ va_K (dC, dI) vwCl [] U ∧ va_D (fun _ => True) (wd_09b0abee h0 r0 v0 v1 v2 v3))) (va_Qv (fun (_ : Unit) => True) (fun (_ : Unit) (t : State) => (va_P (dC, dI) vwCl (wd_09b0abee h0 r0 v0 0 (-1) v3) t.heap ∧ va_K (dC, dI) vwCl [] t ∧ va_D (va_A (wd_09b0abee h0 r0 v0 v1 v2 v3) sz) (wd_09b0abee h0 r0 v0 0 (-1) v3))) (va_A (wd_09b0abee h0 r0 v0 v1 v2 v3) sz)) 0 0 (va_A (wd_09b0abee h0 r0 v0 v1 v2 v3) sz) := by
  refine Met.ofW (cc := cX10_rewind) (maxL := 1) (ret := none) (by decide) rfl ?_
  intro p e s m args below meth c s₁ B hml hv
  obtain ⟨i_v0a, i_v0b⟩ := i_v0
  obtain ⟨rfl, hsz, hP, hK, hD0⟩ := hv
  have hx := B.exec
  have hb := B.bytes
  have hr := B.returns
  have hts := atoms_spec (ws := q_X10_rewind) B.pre
  have hown : s.vm.findClass RX10 = some m.cls := findClass_of_methodNamed B.named
  have hlocks := B.notSynchronized
  subst hsz
  have hD := hD0.self (sz := s.heap.size)
  generalize hAe : va_A (wd_09b0abee h0 r0 v0 v1 v2 v3) s.heap.size = A at hD ⊢
  have hA : ∀ q : Nat, s.heap.size ≤ q → A q := fun q h => by rw [← hAe]; exact Or.inr h
  have hS : va_S A s.heap s.heap [] := va_S.rf
  generalize hQ : (MQ below _ _ s 0 0 A) = Q
  have hl := lv_entry ([.ref h0]) (n := 1) (Nat.le_of_ble_eq_true rfl)
  rw [lg_entry_eq]
  generalize (lg_sl ([.ref h0]) ++ List.replicate (1 - (lg_sl ([.ref h0])).length) Slot.unset).toArray = ls at hl ⊢
  have hl : lv_has ls 1 [(0, .ref h0)] := hl
  obtain ⟨H, hH⟩ : ∃ H : Heap, H = s.heap := ⟨_, rfl⟩
  obtain ⟨locs, hlocs⟩ : ∃ y : List Loc, y = [] := ⟨_, rfl⟩
  have hS : va_S A s.heap H locs := by rw [hH, hlocs]; exact va_S.rf
  have hP : va_P (dC, dI) vwCl (wd_09b0abee h0 r0 v0 v1 v2 v3) H := by rw [hH]; exact hP
  rw [← hH, ← hlocs]
  refine lv_aload_n hx hb dX10_rewind_0 rfl (lv_at hl 0 rfl) ?_
  refine lv_iconst (v := 0) hx hb dX10_rewind_1 (by decide) ?_
  refine va_put (D := (dC, dI)) (ci := 10) (v := .int 0) (ty := .int) (C := RX10) (T := TX10) (N := 5) hx hb hts (fun _ h => List.mem_cons_of_mem _ (List.mem_append_right _ h)) tyX10 tyX10_ok nmX10 hown hK hP hD hS 0 rfl rfl 2 (by decide) (hts (.fieldLink RX10 19 "LeftArguments$Tape" "at" "I") (List.mem_cons_of_mem _ (List.mem_append_left _ (List.mem_of_getElem? (i := 0) rfl)))) (fun _ h9 => h9) rfl (by decide +kernel) rfl rfl (Nat.le_of_ble_eq_true rfl) dX10_rewind_2 (fun H locs hP hD hS => ?_)
  have hP : va_P (dC, dI) vwCl (wd_09b0abee h0 r0 v0 0 v2 v3) H := hP
  have hD : va_D A (wd_09b0abee h0 r0 v0 0 v2 v3) := hD
  refine lv_aload_n hx hb dX10_rewind_5 rfl (lv_at hl 0 rfl) ?_
  refine lv_iconst (v := (-1)) hx hb dX10_rewind_6 (by decide) ?_
  refine va_put (D := (dC, dI)) (ci := 10) (v := .int (-1)) (ty := .int) (C := RX10) (T := TX10) (N := 5) hx hb hts (fun _ h => List.mem_cons_of_mem _ (List.mem_append_right _ h)) tyX10 tyX10_ok nmX10 hown hK hP hD hS 0 rfl rfl 3 (by decide) (hts (.fieldLink RX10 22 "LeftArguments$Tape" "wrongAt" "I") (List.mem_cons_of_mem _ (List.mem_append_left _ (List.mem_of_getElem? (i := 1) rfl)))) (fun _ h9 => h9) rfl (by decide +kernel) rfl rfl (Nat.le_of_ble_eq_true rfl) dX10_rewind_7 (fun H locs hP hD hS => ?_)
  have hP : va_P (dC, dI) vwCl (wd_09b0abee h0 r0 v0 0 (-1) v3) H := hP
  have hD : va_D A (wd_09b0abee h0 r0 v0 0 (-1) v3) := hD
  subst hQ
  have hP9 := hP.sub (ws' := (wd_09b0abee h0 r0 v0 0 (-1) v3)) [0] rfl
  have hD9 := hD.sub (ws' := (wd_09b0abee h0 r0 v0 0 (-1) v3)) [0] (by decide) rfl
  have hK9 := hK.sub (tys' := []) [] rfl
  exact W.vret hx hb hr (fun t ht hW => ⟨⟨(), rfl, trivial, ⟨by rw [ht]; exact hP9, va_K.moved hW.alike hK9, hD9⟩⟩, hS.F ht⟩) hS.2.2 dX10_rewind_10
def q_X10_step : List Cond := .code yX10_step cX10_step 1 none :: (([.fieldLink RX10 19 "LeftArguments$Tape" "at" "I"] : List Cond) ++ wsX100)
set_option maxHeartbeats 4000000 in
set_option maxRecDepth 100000 in
theorem k_X10_step (l : Launch) (dC : Nat → ClassId) (dI : Nat → Nat → Nat) (h0 : Nat) (r0 : Nat) (v0 : Int32) (v1 : Int32) (v2 : Int32) (v3 : Int32) (i_v0 : 0 ≤ v0.toInt ∧ v0.toInt ≤ 240) (i_v1 : 0 ≤ v1.toInt ∧ v1.toInt ≤ 239) (sz : Nat) : Met l yX10_step q_X10_step ({ frames := 0, cells := 0, slots := 0, locals := 0 }) (va_Pc [.ref h0] (fun U => U.heap.size = sz ∧ va_P (dC, dI) vwCl (wd_09b0abee h0 r0 v0 v1 v2 v3) U.heap ∧ va_K (dC, dI) vwCl [] U ∧ va_D (fun _ => True) (wd_09b0abee h0 r0 v0 v1 v2 v3))) (va_Qv (fun (_ : Unit) => True) (fun (_ : Unit) (t : State) => (∃ (o_h0_2 : Int32), 1 ≤ o_h0_2.toInt ∧ o_h0_2.toInt ≤ 240 ∧ (o_h0_2.toInt = v1.toInt + 1) ∧ va_P (dC, dI) vwCl (wd_09b0abee h0 r0 v0 o_h0_2 v2 v3) t.heap ∧ va_K (dC, dI) vwCl [] t ∧ va_D (va_A (wd_09b0abee h0 r0 v0 v1 v2 v3) sz) (wd_09b0abee h0 r0 v0 o_h0_2 v2 v3))) (va_A (wd_09b0abee h0 r0 v0 v1 v2 v3) sz)) 0 0 (va_A (wd_09b0abee h0 r0 v0 v1 v2 v3) sz) := by
  refine Met.ofW (cc := cX10_step) (maxL := 1) (ret := none) (by decide) rfl ?_
  intro p e s m args below meth c s₁ B hml hv
  obtain ⟨i_v0a, i_v0b⟩ := i_v0
  obtain ⟨i_v1a, i_v1b⟩ := i_v1
  obtain ⟨rfl, hsz, hP, hK, hD0⟩ := hv
  have hx := B.exec
  have hb := B.bytes
  have hr := B.returns
  have hts := atoms_spec (ws := q_X10_step) B.pre
  have hown : s.vm.findClass RX10 = some m.cls := findClass_of_methodNamed B.named
  have hlocks := B.notSynchronized
  subst hsz
  have hD := hD0.self (sz := s.heap.size)
  generalize hAe : va_A (wd_09b0abee h0 r0 v0 v1 v2 v3) s.heap.size = A at hD ⊢
  have hA : ∀ q : Nat, s.heap.size ≤ q → A q := fun q h => by rw [← hAe]; exact Or.inr h
  have hS : va_S A s.heap s.heap [] := va_S.rf
  generalize hQ : (MQ below _ _ s 0 0 A) = Q
  have hl := lv_entry ([.ref h0]) (n := 1) (Nat.le_of_ble_eq_true rfl)
  rw [lg_entry_eq]
  generalize (lg_sl ([.ref h0]) ++ List.replicate (1 - (lg_sl ([.ref h0])).length) Slot.unset).toArray = ls at hl ⊢
  have hl : lv_has ls 1 [(0, .ref h0)] := hl
  obtain ⟨H, hH⟩ : ∃ H : Heap, H = s.heap := ⟨_, rfl⟩
  obtain ⟨locs, hlocs⟩ : ∃ y : List Loc, y = [] := ⟨_, rfl⟩
  have hS : va_S A s.heap H locs := by rw [hH, hlocs]; exact va_S.rf
  have hP : va_P (dC, dI) vwCl (wd_09b0abee h0 r0 v0 v1 v2 v3) H := by rw [hH]; exact hP
  rw [← hH, ← hlocs]
  refine lv_aload_n hx hb dX10_step_0 rfl (lv_at hl 0 rfl) ?_
  refine lv_dup hx hb dX10_step_1 rfl ?_
  refine va_get (D := (dC, dI)) (ci := 10) (v := .int v1) (C := RX10) (T := TX10) (N := 5) hx hb hts (fun _ h => List.mem_cons_of_mem _ (List.mem_append_right _ h)) hown hK hP 0 rfl rfl 2 (by decide) (hts (.fieldLink RX10 19 "LeftArguments$Tape" "at" "I") (List.mem_cons_of_mem _ (List.mem_append_left _ (List.mem_of_getElem? (i := 0) rfl)))) (fun _ h9 => h9) rfl dX10_step_2 ?_
  refine lv_iconst (v := 1) hx hb dX10_step_5 (by decide) ?_
  refine lv_iadd hx hb dX10_step_6 ?_
  refine lv_topi (fun t1 et1 => ?_)
  have gt1 : t1.toInt = v1.toInt + 1 := pv_add (a := v1.toInt) (b := 1) et1 rfl (by decide) (by omega) (by omega)
  refine va_put (D := (dC, dI)) (ci := 10) (v := .int t1) (ty := .int) (C := RX10) (T := TX10) (N := 5) hx hb hts (fun _ h => List.mem_cons_of_mem _ (List.mem_append_right _ h)) tyX10 tyX10_ok nmX10 hown hK hP hD hS 0 rfl rfl 2 (by decide) (hts (.fieldLink RX10 19 "LeftArguments$Tape" "at" "I") (List.mem_cons_of_mem _ (List.mem_append_left _ (List.mem_of_getElem? (i := 0) rfl)))) (fun _ h9 => h9) rfl (by decide +kernel) rfl rfl (Nat.le_of_ble_eq_true rfl) dX10_step_7 (fun H locs hP hD hS => ?_)
  have hP : va_P (dC, dI) vwCl (wd_09b0abee h0 r0 v0 t1 v2 v3) H := hP
  have hD : va_D A (wd_09b0abee h0 r0 v0 t1 v2 v3) := hD
  subst hQ
  have hP9 := hP.sub (ws' := (wd_09b0abee h0 r0 v0 t1 v2 v3)) [0] rfl
  have hD9 := hD.sub (ws' := (wd_09b0abee h0 r0 v0 t1 v2 v3)) [0] (by decide) rfl
  have hK9 := hK.sub (tys' := []) [] rfl
  exact W.vret hx hb hr (fun t ht hW => ⟨⟨(), rfl, trivial, ⟨t1, by first | omega | decide, by first | omega | decide, by omega, by rw [ht]; exact hP9, va_K.moved hW.alike hK9, hD9⟩⟩, hS.F ht⟩) hS.2.2 dX10_step_10
def q_J7_fill_53178_1 : List Cond := .code yJ7_fill_53178 cJ7_fill_53178 4 none :: (([] : List Cond))
set_option maxHeartbeats 4000000 in
set_option maxRecDepth 100000 in
theorem k_J7_fill_53178_1 (l : Launch) (dC : Nat → ClassId) (dI : Nat → Nat → Nat) (h0 : Nat) (g0 : ClassId) (f0 : Nat → Int32) (v1 : Int32) (sz : Nat) : Met l yJ7_fill_53178 q_J7_fill_53178_1 ({ frames := 0, cells := 0, slots := 0, locals := 0 }) (va_Pc [.ref h0, .int v1] (fun U => U.heap.size = sz ∧ va_P (dC, dI) vwCl (wd_063f09b6 h0 g0 f0) U.heap ∧ va_K (dC, dI) vwCl [(g0, .int)] U ∧ va_D (fun _ => True) (wd_063f09b6 h0 g0 f0))) (va_Qv (fun (_ : Unit) => True) (fun (_ : Unit) (t : State) => ∃ (o_h0 : Nat → Int32), va_P (dC, dI) vwCl (wd_063f09b6 h0 g0 o_h0) t.heap ∧ va_K (dC, dI) vwCl [] t ∧ va_D (va_A (wd_063f09b6 h0 g0 f0) sz) (wd_063f09b6 h0 g0 o_h0)) (va_A (wd_063f09b6 h0 g0 f0) sz)) 0 0 (va_A (wd_063f09b6 h0 g0 f0) sz) := by
  refine pv_ofWF (cc := cJ7_fill_53178) (maxL := 4) (ret := none) (by decide +kernel) rfl ?_
  intro p e s m args below meth c s₁ B hml hv
  obtain ⟨rfl, hsz, hP, hK, hD0⟩ := hv
  have hx := B.exec
  have hb := B.bytes
  have hr := B.returns
  have hts := atoms_spec (ws := q_J7_fill_53178_1) B.pre
  have hown : s.vm.findClass RJ7 = some m.cls := findClass_of_methodNamed B.named
  have hlocks := B.notSynchronized
  subst hsz
  have hD := hD0.self (sz := s.heap.size)
  generalize hAe : va_A (wd_063f09b6 h0 g0 f0) s.heap.size = A at hD ⊢
  have hA : ∀ q : Nat, s.heap.size ≤ q → A q := fun q h => by rw [← hAe]; exact Or.inr h
  have hS : va_S A s.heap s.heap [] := va_S.rf
  generalize hQ : (MQ below _ _ s 0 0 A) = Q
  have hl := lv_entry ([.ref h0, .int v1]) (n := 4) (Nat.le_of_ble_eq_true rfl)
  rw [lg_entry_eq]
  generalize (lg_sl ([.ref h0, .int v1]) ++ List.replicate (4 - (lg_sl ([.ref h0, .int v1])).length) Slot.unset).toArray = ls at hl ⊢
  have hl : lv_has ls 4 [(0, .ref h0), (1, .int v1)] := hl
  obtain ⟨H, hH⟩ : ∃ H : Heap, H = s.heap := ⟨_, rfl⟩
  obtain ⟨locs, hlocs⟩ : ∃ y : List Loc, y = [] := ⟨_, rfl⟩
  have hS : va_S A s.heap H locs := by rw [hH, hlocs]; exact va_S.rf
  have hP : va_P (dC, dI) vwCl (wd_063f09b6 h0 g0 f0) H := by rw [hH]; exact hP
  rw [← hH, ← hlocs]
  refine lv_iconst (v := 0) hx hb dJ7_fill_53178_0 (by decide) ?_
  refine lv_istore_n (lv' := [(2, .int 0), (0, .ref h0), (1, .int v1)]) hx hb dJ7_fill_53178_1 rfl hl (by decide) rfl (fun ls hl => ?_)
  refine lv_aload_n hx hb dJ7_fill_53178_2 rfl (lv_at hl 1 rfl) ?_
  refine va_alen (v := 8) hx hb hK hP 0 0 rfl rfl (by rfl) dJ7_fill_53178_3 ?_
  refine lv_istore_n (lv' := [(3, .int 8), (2, .int 0), (0, .ref h0), (1, .int v1)]) hx hb dJ7_fill_53178_4 rfl hl (by decide) rfl (fun ls hl => ?_)
  have hL11 : ∀ (n9 : Nat), ∀ (x7 : Int32) (fn8 : Nat → Int32) (H : Heap) (locs : List Loc) (ls : Array Slot), 0 ≤ x7.toInt → x7.toInt ≤ 8 → (8 - x7.toInt).toNat < n9 → va_P (dC, dI) vwCl (wd_063f09b6 h0 g0 fn8) H → va_D A (wd_063f09b6 h0 g0 fn8) → va_S A s.heap H locs → lv_has ls 4 [(3, .int 8), (2, .int x7), (0, .ref h0), (1, .int v1)] → W p l e ({ frames := 0, cells := 0, slots := 0, locals := 0 }) s m ([.ref h0, .int v1] : List Value).toArray below meth c H locs 0 0 Q (F0 m 5 ls []) := by
    intro n9
    induction n9 with
    | zero => intro x7 fn8 H locs ls qa_x7 qb_x7 hm9 hP hD hS hl; exact absurd hm9 (Nat.not_lt_zero _)
    | succ n9 ih_hL11 =>
      intro x7 fn8 H locs ls qa_x7 qb_x7 hm9 hP hD hS hl
      refine lv_iload_n hx hb dJ7_fill_53178_5 rfl (lv_at hl 1 rfl) ?_
      refine lv_iload_n hx hb dJ7_fill_53178_6 rfl (lv_at hl 0 rfl) ?_
      refine lv_icmp_ge (tgt := 20) hx hb dJ7_fill_53178_7 (by decide) (fun c12 => ?_) (fun c12 => ?_)
      · skip
        have fc12 : 8 ≤ x7.toInt := Int32.le_iff_toInt_le.mp c12
        subst hQ
        have hP9 := hP.sub (ws' := (wd_063f09b6 h0 g0 fn8)) [0] rfl
        have hD9 := hD.sub (ws' := (wd_063f09b6 h0 g0 fn8)) [0] (by decide) rfl
        have hK9 := hK.sub (tys' := []) [] rfl
        exact W.vret hx hb hr (fun t ht hW => ⟨⟨(), rfl, trivial, fn8, by rw [ht]; exact hP9, va_K.moved hW.alike hK9, hD9⟩, hS.F ht⟩) hS.2.2 dJ7_fill_53178_20
      · skip
        have fc12 : ¬ (8 ≤ x7.toInt) := fun h9 => c12 (Int32.le_iff_toInt_le.mpr h9)
        refine lv_aload_n hx hb dJ7_fill_53178_10 rfl (lv_at hl 2 rfl) ?_
        refine lv_iload_n hx hb dJ7_fill_53178_11 rfl (lv_at hl 1 rfl) ?_
        refine lv_iload_n hx hb dJ7_fill_53178_12 rfl (lv_at hl 3 rfl) ?_
        refine va_iast hx hb hK hP hD hS 0 0 rfl rfl (vp_in_iff.mpr ⟨by omega, by omega⟩) dJ7_fill_53178_13 (fun H locs hP hD hS => ?_)
        obtain ⟨fn13, efn13⟩ : ∃ g : Nat → Int32, g = upd fn8 (Int32.toNatClampNeg x7) v1 := ⟨_, rfl⟩
        rw [← efn13] at hP hD
        have hP : va_P (dC, dI) vwCl (wd_063f09b6 h0 g0 fn13) H := hP
        have hD : va_D A (wd_063f09b6 h0 g0 fn13) := hD
        obtain ⟨t14, et14⟩ : ∃ y : Int32, y = x7 + 1 := ⟨_, rfl⟩
        have gt14 : t14.toInt = x7.toInt + (1) := pv_add (a := x7.toInt) (b := (1)) et14 rfl (by decide) (by omega) (by omega)
        refine lv_iinc (v := t14) (lv' := [(2, .int t14), (3, .int 8), (0, .ref h0), (1, .int v1)]) hx hb dJ7_fill_53178_14 hl (k := 1) rfl (by rw [et14]; rfl) (by decide) rfl (fun ls hl => ?_)
        refine lv_goto (tgt := 5) hx hb dJ7_fill_53178_17 (by decide) ?_
        exact ih_hL11 t14 fn13 H locs ls (by first | omega | decide) (by first | omega | decide) (by first | omega | (simp only [Int.toNat] at *; omega)) hP hD hS (lv_sub hl [1, 0, 2, 3] rfl)
  exact hL11 _ 0 f0 H locs ls (by decide) (by decide) (Nat.lt_succ_self _) hP hD hS (lv_sub hl [0, 1, 2, 3] rfl)
def q_X8_standsWell : List Cond := .code yX8_standsWell cX8_standsWell 3 (some .boolean) :: (([.fieldLink RX8 37 "LeftArguments$Rows" "byRoom" "Z", .fieldLink RX8 27 "LeftArguments$Rows" "standing" "[I", .fieldLink RX8 15 "LeftArguments$Rows" "circles" "[I", .fieldLink RX8 24 "LeftArguments$Rows" "loads" "[I", .fieldLink RX8 9 "LeftArguments$Rows" "sizes" "[I", .fieldLink RX8 34 "LeftArguments$Rows" "wide" "I"] : List Cond) ++ wsX80)
set_option maxHeartbeats 4000000 in
set_option maxRecDepth 100000 in
theorem k_X8_standsWell (l : Launch) (dC : Nat → ClassId) (dI : Nat → Nat → Nat) (h0 : Nat) (h1 : Nat) (h2 : Nat) (h3 : Nat) (h4 : Nat) (r0 : Nat) (r1 : Nat) (v0 : Int32) (v1 : Int32) (v2 : Int32) (g0 : ClassId) (f3 : Nat → Int32) (g1 : ClassId) (f4 : Nat → Int32) (g2 : ClassId) (f5 : Nat → Int32) (g3 : ClassId) (f6 : Nat → Int32) (v7 : Int32) (v8 : Int32) (i_v2 : 0 ≤ v2.toInt ∧ v2.toInt ≤ 1) (sz : Nat) : Met l yX8_standsWell q_X8_standsWell ({ frames := 0, cells := 0, slots := 0, locals := 0 }) (va_Pc [.ref h0, .int v7, .int v8] (fun U => U.heap.size = sz ∧ va_P (dC, dI) vwCl (wd_62728821 h0 h1 h2 r0 r1 h3 h4 v0 v1 v2 h1 g0 f3 h2 g1 f4 h3 g2 f5 h4 g3 f6) U.heap ∧ va_K (dC, dI) vwCl [(g0, .int), (g1, .int), (g2, .int), (g3, .int)] U ∧ va_D (fun _ => True) (wd_62728821 h0 h1 h2 r0 r1 h3 h4 v0 v1 v2 h1 g0 f3 h2 g1 f4 h3 g2 f5 h4 g3 f6))) (va_Qi (fun (r : Int32) (_ : Unit) => 0 ≤ r.toInt ∧ r.toInt ≤ 1) (fun (_ : Unit) (t : State) => va_P (dC, dI) vwCl (wd_62728821 h0 h1 h2 r0 r1 h3 h4 v0 v1 v2 h1 g0 f3 h2 g1 f4 h3 g2 f5 h4 g3 f6) t.heap ∧ va_K (dC, dI) vwCl [] t ∧ va_D (va_A (wd_62728821 h0 h1 h2 r0 r1 h3 h4 v0 v1 v2 h1 g0 f3 h2 g1 f4 h3 g2 f5 h4 g3 f6) sz) (wd_62728821 h0 h1 h2 r0 r1 h3 h4 v0 v1 v2 h1 g0 f3 h2 g1 f4 h3 g2 f5 h4 g3 f6)) (va_A (wd_62728821 h0 h1 h2 r0 r1 h3 h4 v0 v1 v2 h1 g0 f3 h2 g1 f4 h3 g2 f5 h4 g3 f6) sz)) 0 0 (va_A (wd_62728821 h0 h1 h2 r0 r1 h3 h4 v0 v1 v2 h1 g0 f3 h2 g1 f4 h3 g2 f5 h4 g3 f6) sz) := by
  refine Met.ofW (cc := cX8_standsWell) (maxL := 3) (ret := (some .boolean)) (by decide) rfl ?_
  intro p e s m args below meth c s₁ B hml hv
  obtain ⟨i_v2a, i_v2b⟩ := i_v2
  obtain ⟨rfl, hsz, hP, hK, hD0⟩ := hv
  have hx := B.exec
  have hb := B.bytes
  have hr := B.returns
  have hts := atoms_spec (ws := q_X8_standsWell) B.pre
  have hown : s.vm.findClass RX8 = some m.cls := findClass_of_methodNamed B.named
  have hlocks := B.notSynchronized
  subst hsz
  have hD := hD0.self (sz := s.heap.size)
  generalize hAe : va_A (wd_62728821 h0 h1 h2 r0 r1 h3 h4 v0 v1 v2 h1 g0 f3 h2 g1 f4 h3 g2 f5 h4 g3 f6) s.heap.size = A at hD ⊢
  have hA : ∀ q : Nat, s.heap.size ≤ q → A q := fun q h => by rw [← hAe]; exact Or.inr h
  have hS : va_S A s.heap s.heap [] := va_S.rf
  generalize hQ : (MQ below _ _ s 0 0 A) = Q
  have hl := lv_entry ([.ref h0, .int v7, .int v8]) (n := 3) (Nat.le_of_ble_eq_true rfl)
  rw [lg_entry_eq]
  generalize (lg_sl ([.ref h0, .int v7, .int v8]) ++ List.replicate (3 - (lg_sl ([.ref h0, .int v7, .int v8])).length) Slot.unset).toArray = ls at hl ⊢
  have hl : lv_has ls 3 [(0, .ref h0), (1, .int v7), (2, .int v8)] := hl
  obtain ⟨H, hH⟩ : ∃ H : Heap, H = s.heap := ⟨_, rfl⟩
  obtain ⟨locs, hlocs⟩ : ∃ y : List Loc, y = [] := ⟨_, rfl⟩
  have hS : va_S A s.heap H locs := by rw [hH, hlocs]; exact va_S.rf
  have hP : va_P (dC, dI) vwCl (wd_62728821 h0 h1 h2 r0 r1 h3 h4 v0 v1 v2 h1 g0 f3 h2 g1 f4 h3 g2 f5 h4 g3 f6) H := by rw [hH]; exact hP
  rw [← hH, ← hlocs]
  refine lv_iload_n hx hb dX8_standsWell_0 rfl (lv_at hl 1 rfl) ?_
  refine lv_if_lt (tgt := 20) hx hb dX8_standsWell_1 (by decide) (fun c1 => ?_) (fun c1 => ?_)
  · skip
    have fc1 : v7.toInt < 0 := Int32.lt_iff_toInt_lt.mp c1
    refine lv_iconst (v := 0) hx hb dX8_standsWell_20 (by decide) ?_
    subst hQ
    have hP9 := hP.sub (ws' := (wd_62728821 h0 h1 h2 r0 r1 h3 h4 v0 v1 v2 h1 g0 f3 h2 g1 f4 h3 g2 f5 h4 g3 f6)) [0, 1, 2, 3, 4] rfl
    have hD9 := hD.sub (ws' := (wd_62728821 h0 h1 h2 r0 r1 h3 h4 v0 v1 v2 h1 g0 f3 h2 g1 f4 h3 g2 f5 h4 g3 f6)) [0, 1, 2, 3, 4] (by decide) rfl
    have hK9 := hK.sub (tys' := []) [] rfl
    exact W.zret (v := 0) hx hb hr rfl (fun t ht hW => ⟨⟨0, (), rfl, ⟨by first | omega | decide, by first | omega | decide⟩, by rw [ht]; exact hP9, va_K.moved hW.alike hK9, hD9⟩, hS.F ht⟩) hS.2.2 dX8_standsWell_21
  · skip
    have fc1 : ¬ (v7.toInt < 0) := fun h9 => c1 (Int32.lt_iff_toInt_lt.mpr h9)
    refine lv_iload_n hx hb dX8_standsWell_4 rfl (lv_at hl 1 rfl) ?_
    refine lv_bipush (v := 8) hx hb dX8_standsWell_5 (by decide) ?_
    refine lv_icmp_ge (tgt := 20) hx hb dX8_standsWell_7 (by decide) (fun c2 => ?_) (fun c2 => ?_)
    · skip
      have fc2 : 8 ≤ v7.toInt := Int32.le_iff_toInt_le.mp c2
      refine lv_iconst (v := 0) hx hb dX8_standsWell_20 (by decide) ?_
      subst hQ
      have hP9 := hP.sub (ws' := (wd_62728821 h0 h1 h2 r0 r1 h3 h4 v0 v1 v2 h1 g0 f3 h2 g1 f4 h3 g2 f5 h4 g3 f6)) [0, 1, 2, 3, 4] rfl
      have hD9 := hD.sub (ws' := (wd_62728821 h0 h1 h2 r0 r1 h3 h4 v0 v1 v2 h1 g0 f3 h2 g1 f4 h3 g2 f5 h4 g3 f6)) [0, 1, 2, 3, 4] (by decide) rfl
      have hK9 := hK.sub (tys' := []) [] rfl
      exact W.zret (v := 0) hx hb hr rfl (fun t ht hW => ⟨⟨0, (), rfl, ⟨by first | omega | decide, by first | omega | decide⟩, by rw [ht]; exact hP9, va_K.moved hW.alike hK9, hD9⟩, hS.F ht⟩) hS.2.2 dX8_standsWell_21
    · skip
      have fc2 : ¬ (8 ≤ v7.toInt) := fun h9 => c2 (Int32.le_iff_toInt_le.mpr h9)
      refine lv_iload_n hx hb dX8_standsWell_10 rfl (lv_at hl 2 rfl) ?_
      refine lv_if_lt (tgt := 20) hx hb dX8_standsWell_11 (by decide) (fun c3 => ?_) (fun c3 => ?_)
      · skip
        have fc3 : v8.toInt < 0 := Int32.lt_iff_toInt_lt.mp c3
        refine lv_iconst (v := 0) hx hb dX8_standsWell_20 (by decide) ?_
        subst hQ
        have hP9 := hP.sub (ws' := (wd_62728821 h0 h1 h2 r0 r1 h3 h4 v0 v1 v2 h1 g0 f3 h2 g1 f4 h3 g2 f5 h4 g3 f6)) [0, 1, 2, 3, 4] rfl
        have hD9 := hD.sub (ws' := (wd_62728821 h0 h1 h2 r0 r1 h3 h4 v0 v1 v2 h1 g0 f3 h2 g1 f4 h3 g2 f5 h4 g3 f6)) [0, 1, 2, 3, 4] (by decide) rfl
        have hK9 := hK.sub (tys' := []) [] rfl
        exact W.zret (v := 0) hx hb hr rfl (fun t ht hW => ⟨⟨0, (), rfl, ⟨by first | omega | decide, by first | omega | decide⟩, by rw [ht]; exact hP9, va_K.moved hW.alike hK9, hD9⟩, hS.F ht⟩) hS.2.2 dX8_standsWell_21
      · skip
        have fc3 : ¬ (v8.toInt < 0) := fun h9 => c3 (Int32.lt_iff_toInt_lt.mpr h9)
        refine lv_iload_n hx hb dX8_standsWell_14 rfl (lv_at hl 2 rfl) ?_
        refine lv_bipush (v := 8) hx hb dX8_standsWell_15 (by decide) ?_
        refine lv_icmp_lt (tgt := 22) hx hb dX8_standsWell_17 (by decide) (fun c4 => ?_) (fun c4 => ?_)
        · skip
          have fc4 : v8.toInt < 8 := Int32.lt_iff_toInt_lt.mp c4
          refine lv_aload_n hx hb dX8_standsWell_22 rfl (lv_at hl 0 rfl) ?_
          refine va_get (D := (dC, dI)) (ci := 8) (v := .int v2) (C := RX8) (T := TX8) (N := 9) hx hb hts (fun _ h => List.mem_cons_of_mem _ (List.mem_append_right _ h)) hown hK hP 0 rfl rfl 8 (by decide) (hts (.fieldLink RX8 37 "LeftArguments$Rows" "byRoom" "Z") (List.mem_cons_of_mem _ (List.mem_append_left _ (List.mem_of_getElem? (i := 0) rfl)))) (fun _ h9 => h9) rfl dX8_standsWell_23 ?_
          have hJ6 : ∀ (x5 : Int32) (H : Heap) (locs : List Loc) (ls : Array Slot), 0 ≤ x5.toInt → x5.toInt ≤ 1 → va_P (dC, dI) vwCl (wd_62728821 h0 h1 h2 r0 r1 h3 h4 v0 v1 v2 h1 g0 f3 h2 g1 f4 h3 g2 f5 h4 g3 f6) H → va_D A (wd_62728821 h0 h1 h2 r0 r1 h3 h4 v0 v1 v2 h1 g0 f3 h2 g1 f4 h3 g2 f5 h4 g3 f6) → va_S A s.heap H locs → lv_has ls 3 [(0, .ref h0), (1, .int v7), (2, .int v8)] → W p l e ({ frames := 0, cells := 0, slots := 0, locals := 0 }) s m ([.ref h0, .int v7, .int v8] : List Value).toArray below meth c H locs 0 0 Q (F0 m 78 ls [.int x5]) := by
            intro x5 H locs ls qa_x5 qb_x5 hP hD hS hl
            subst hQ
            have hP9 := hP.sub (ws' := (wd_62728821 h0 h1 h2 r0 r1 h3 h4 v0 v1 v2 h1 g0 f3 h2 g1 f4 h3 g2 f5 h4 g3 f6)) [0, 1, 2, 3, 4] rfl
            have hD9 := hD.sub (ws' := (wd_62728821 h0 h1 h2 r0 r1 h3 h4 v0 v1 v2 h1 g0 f3 h2 g1 f4 h3 g2 f5 h4 g3 f6)) [0, 1, 2, 3, 4] (by decide) rfl
            have hK9 := hK.sub (tys' := []) [] rfl
            exact W.zret (v := x5) hx hb hr (pv_nz (by omega) (by omega)) (fun t ht hW => ⟨⟨x5, (), rfl, ⟨by first | omega | decide, by first | omega | decide⟩, by rw [ht]; exact hP9, va_K.moved hW.alike hK9, hD9⟩, hS.F ht⟩) hS.2.2 dX8_standsWell_78
          refine lv_if_eq (tgt := 57) hx hb dX8_standsWell_26 (by decide) (fun c7 => ?_) (fun c7 => ?_)
          · skip
            have fc7 : v2.toInt = 0 := congrArg Int32.toInt c7
            refine lv_aload_n hx hb dX8_standsWell_57 rfl (lv_at hl 0 rfl) ?_
            refine va_get (D := (dC, dI)) (ci := 8) (v := .ref h4) (C := RX8) (T := TX8) (N := 9) hx hb hts (fun _ h => List.mem_cons_of_mem _ (List.mem_append_right _ h)) hown hK hP 0 rfl rfl 5 (by decide) (hts (.fieldLink RX8 27 "LeftArguments$Rows" "standing" "[I") (List.mem_cons_of_mem _ (List.mem_append_left _ (List.mem_of_getElem? (i := 1) rfl)))) (fun _ h9 => h9) rfl dX8_standsWell_58 ?_
            refine lv_iload_n hx hb dX8_standsWell_61 rfl (lv_at hl 2 rfl) ?_
            refine va_iald hx hb hK hP 4 3 rfl rfl (vp_in_iff.mpr ⟨by omega, by omega⟩) dX8_standsWell_62 ?_
            refine lv_topi (fun t8 et8 => ?_)
            refine lv_aload_n hx hb dX8_standsWell_63 rfl (lv_at hl 0 rfl) ?_
            refine va_get (D := (dC, dI)) (ci := 8) (v := .ref h2) (C := RX8) (T := TX8) (N := 9) hx hb hts (fun _ h => List.mem_cons_of_mem _ (List.mem_append_right _ h)) hown hK hP 0 rfl rfl 1 (by decide) (hts (.fieldLink RX8 15 "LeftArguments$Rows" "circles" "[I") (List.mem_cons_of_mem _ (List.mem_append_left _ (List.mem_of_getElem? (i := 2) rfl)))) (fun _ h9 => h9) rfl dX8_standsWell_64 ?_
            refine lv_iload_n hx hb dX8_standsWell_67 rfl (lv_at hl 1 rfl) ?_
            refine va_iald hx hb hK hP 2 1 rfl rfl (vp_in_iff.mpr ⟨by omega, by omega⟩) dX8_standsWell_68 ?_
            refine lv_topi (fun t9 et9 => ?_)
            refine lv_iand hx hb dX8_standsWell_69 ?_
            refine lv_topi (fun t10 et10 => ?_)
            refine lv_if_ne (tgt := 77) hx hb dX8_standsWell_70 (by decide) (fun c11 => ?_) (fun c11 => ?_)
            · skip
              have fc11 : ¬ (t10.toInt = 0) := fun h9 => c11 (Int32.toInt_inj.mp h9)
              refine lv_iconst (v := 0) hx hb dX8_standsWell_77 (by decide) ?_
              exact hJ6 0 H locs ls (by decide) (by decide) hP hD hS (lv_sub hl [0, 1, 2] rfl)
            · skip
              have fc11 : t10.toInt = 0 := congrArg Int32.toInt c11
              refine lv_iconst (v := 1) hx hb dX8_standsWell_73 (by decide) ?_
              refine lv_goto (tgt := 78) hx hb dX8_standsWell_74 (by decide) ?_
              exact hJ6 1 H locs ls (by decide) (by decide) hP hD hS (lv_sub hl [0, 1, 2] rfl)
          · skip
            have fc7 : ¬ (v2.toInt = 0) := fun h9 => c7 (Int32.toInt_inj.mp h9)
            refine lv_aload_n hx hb dX8_standsWell_29 rfl (lv_at hl 0 rfl) ?_
            refine va_get (D := (dC, dI)) (ci := 8) (v := .ref h3) (C := RX8) (T := TX8) (N := 9) hx hb hts (fun _ h => List.mem_cons_of_mem _ (List.mem_append_right _ h)) hown hK hP 0 rfl rfl 4 (by decide) (hts (.fieldLink RX8 24 "LeftArguments$Rows" "loads" "[I") (List.mem_cons_of_mem _ (List.mem_append_left _ (List.mem_of_getElem? (i := 3) rfl)))) (fun _ h9 => h9) rfl dX8_standsWell_30 ?_
            refine lv_iload_n hx hb dX8_standsWell_33 rfl (lv_at hl 2 rfl) ?_
            refine va_iald hx hb hK hP 3 2 rfl rfl (vp_in_iff.mpr ⟨by omega, by omega⟩) dX8_standsWell_34 ?_
            refine lv_topi (fun t12 et12 => ?_)
            refine lv_aload_n hx hb dX8_standsWell_35 rfl (lv_at hl 0 rfl) ?_
            refine va_get (D := (dC, dI)) (ci := 8) (v := .ref h1) (C := RX8) (T := TX8) (N := 9) hx hb hts (fun _ h => List.mem_cons_of_mem _ (List.mem_append_right _ h)) hown hK hP 0 rfl rfl 0 (by decide) (hts (.fieldLink RX8 9 "LeftArguments$Rows" "sizes" "[I") (List.mem_cons_of_mem _ (List.mem_append_left _ (List.mem_of_getElem? (i := 4) rfl)))) (fun _ h9 => h9) rfl dX8_standsWell_36 ?_
            refine lv_iload_n hx hb dX8_standsWell_39 rfl (lv_at hl 1 rfl) ?_
            refine va_iald hx hb hK hP 1 0 rfl rfl (vp_in_iff.mpr ⟨by omega, by omega⟩) dX8_standsWell_40 ?_
            refine lv_topi (fun t13 et13 => ?_)
            refine lv_iadd hx hb dX8_standsWell_41 ?_
            refine lv_topi (fun t14 et14 => ?_)
            refine lv_aload_n hx hb dX8_standsWell_42 rfl (lv_at hl 0 rfl) ?_
            refine va_get (D := (dC, dI)) (ci := 8) (v := .int v1) (C := RX8) (T := TX8) (N := 9) hx hb hts (fun _ h => List.mem_cons_of_mem _ (List.mem_append_right _ h)) hown hK hP 0 rfl rfl 7 (by decide) (hts (.fieldLink RX8 34 "LeftArguments$Rows" "wide" "I") (List.mem_cons_of_mem _ (List.mem_append_left _ (List.mem_of_getElem? (i := 5) rfl)))) (fun _ h9 => h9) rfl dX8_standsWell_43 ?_
            refine lv_icmp_gt (tgt := 53) hx hb dX8_standsWell_46 (by decide) (fun c15 => ?_) (fun c15 => ?_)
            · skip
              have fc15 : v1.toInt < t14.toInt := Int32.lt_iff_toInt_lt.mp c15
              have r1c15 := Int32.toInt_lt t14
              have r2c15 := Int32.toInt_lt v1
              have r3c15 := Int32.le_toInt t14
              have r4c15 := Int32.le_toInt v1
              refine lv_iconst (v := 0) hx hb dX8_standsWell_53 (by decide) ?_
              refine lv_goto (tgt := 78) hx hb dX8_standsWell_54 (by decide) ?_
              exact hJ6 0 H locs ls (by decide) (by decide) hP hD hS (lv_sub hl [0, 1, 2] rfl)
            · skip
              have fc15 : ¬ (v1.toInt < t14.toInt) := fun h9 => c15 (Int32.lt_iff_toInt_lt.mpr h9)
              have r1c15 := Int32.toInt_lt t14
              have r2c15 := Int32.toInt_lt v1
              have r3c15 := Int32.le_toInt t14
              have r4c15 := Int32.le_toInt v1
              refine lv_iconst (v := 1) hx hb dX8_standsWell_49 (by decide) ?_
              refine lv_goto (tgt := 78) hx hb dX8_standsWell_50 (by decide) ?_
              exact hJ6 1 H locs ls (by decide) (by decide) hP hD hS (lv_sub hl [0, 1, 2] rfl)
        · skip
          have fc4 : ¬ (v8.toInt < 8) := fun h9 => c4 (Int32.lt_iff_toInt_lt.mpr h9)
          refine lv_iconst (v := 0) hx hb dX8_standsWell_20 (by decide) ?_
          subst hQ
          have hP9 := hP.sub (ws' := (wd_62728821 h0 h1 h2 r0 r1 h3 h4 v0 v1 v2 h1 g0 f3 h2 g1 f4 h3 g2 f5 h4 g3 f6)) [0, 1, 2, 3, 4] rfl
          have hD9 := hD.sub (ws' := (wd_62728821 h0 h1 h2 r0 r1 h3 h4 v0 v1 v2 h1 g0 f3 h2 g1 f4 h3 g2 f5 h4 g3 f6)) [0, 1, 2, 3, 4] (by decide) rfl
          have hK9 := hK.sub (tys' := []) [] rfl
          exact W.zret (v := 0) hx hb hr rfl (fun t ht hW => ⟨⟨0, (), rfl, ⟨by first | omega | decide, by first | omega | decide⟩, by rw [ht]; exact hP9, va_K.moved hW.alike hK9, hD9⟩, hS.F ht⟩) hS.2.2 dX8_standsWell_21
def q_X8_place : List Cond := .code yX8_place cX8_place 5 (some .boolean) :: (([.fieldLink RX8 30 "LeftArguments$Rows" "bags" "I"] : List Cond) ++ wsX80)
set_option maxHeartbeats 4000000 in
set_option maxRecDepth 100000 in
theorem k_X8_place (l : Launch) (dC : Nat → ClassId) (dI : Nat → Nat → Nat) (h0 : Nat) (r0 : Nat) (r1 : Nat) (r2 : Nat) (r3 : Nat) (r4 : Nat) (r5 : Nat) (v0 : Int32) (v1 : Int32) (v2 : Int32) (v3 : Int32) (v4 : Int32) (i_v2 : 0 ≤ v2.toInt ∧ v2.toInt ≤ 1) (sz : Nat) : Met l yX8_place q_X8_place ({ frames := 0, cells := 0, slots := 0, locals := 0 }) (va_Pc [.ref h0, .int 8, .int v3, .int v4] (fun U => U.heap.size = sz ∧ va_P (dC, dI) vwCl (wd_47060168 h0 r0 r1 r2 r3 r4 r5 v0 v1 v2) U.heap ∧ va_K (dC, dI) vwCl [] U ∧ va_D (fun _ => True) (wd_47060168 h0 r0 r1 r2 r3 r4 r5 v0 v1 v2))) (va_Qi (fun (r : Int32) (_ : Unit) => 1 ≤ r.toInt ∧ r.toInt ≤ 1) (fun (_ : Unit) (t : State) => va_P (dC, dI) vwCl (wd_47060168 h0 r0 r1 r2 r3 r4 r5 v0 v1 v2) t.heap ∧ va_K (dC, dI) vwCl [] t ∧ va_D (va_A (wd_47060168 h0 r0 r1 r2 r3 r4 r5 v0 v1 v2) sz) (wd_47060168 h0 r0 r1 r2 r3 r4 r5 v0 v1 v2)) (va_A (wd_47060168 h0 r0 r1 r2 r3 r4 r5 v0 v1 v2) sz)) 0 0 (va_A (wd_47060168 h0 r0 r1 r2 r3 r4 r5 v0 v1 v2) sz) := by
  refine Met.ofW (cc := cX8_place) (maxL := 5) (ret := (some .boolean)) (by decide) rfl ?_
  intro p e s m args below meth c s₁ B hml hv
  obtain ⟨i_v2a, i_v2b⟩ := i_v2
  obtain ⟨rfl, hsz, hP, hK, hD0⟩ := hv
  have hx := B.exec
  have hb := B.bytes
  have hr := B.returns
  have hts := atoms_spec (ws := q_X8_place) B.pre
  have hown : s.vm.findClass RX8 = some m.cls := findClass_of_methodNamed B.named
  have hlocks := B.notSynchronized
  subst hsz
  have hD := hD0.self (sz := s.heap.size)
  generalize hAe : va_A (wd_47060168 h0 r0 r1 r2 r3 r4 r5 v0 v1 v2) s.heap.size = A at hD ⊢
  have hA : ∀ q : Nat, s.heap.size ≤ q → A q := fun q h => by rw [← hAe]; exact Or.inr h
  have hS : va_S A s.heap s.heap [] := va_S.rf
  generalize hQ : (MQ below _ _ s 0 0 A) = Q
  have hl := lv_entry ([.ref h0, .int 8, .int v3, .int v4]) (n := 5) (Nat.le_of_ble_eq_true rfl)
  rw [lg_entry_eq]
  generalize (lg_sl ([.ref h0, .int 8, .int v3, .int v4]) ++ List.replicate (5 - (lg_sl ([.ref h0, .int 8, .int v3, .int v4])).length) Slot.unset).toArray = ls at hl ⊢
  have hl : lv_has ls 5 [(0, .ref h0), (1, .int 8), (2, .int v3), (3, .int v4)] := hl
  obtain ⟨H, hH⟩ : ∃ H : Heap, H = s.heap := ⟨_, rfl⟩
  obtain ⟨locs, hlocs⟩ : ∃ y : List Loc, y = [] := ⟨_, rfl⟩
  have hS : va_S A s.heap H locs := by rw [hH, hlocs]; exact va_S.rf
  have hP : va_P (dC, dI) vwCl (wd_47060168 h0 r0 r1 r2 r3 r4 r5 v0 v1 v2) H := by rw [hH]; exact hP
  rw [← hH, ← hlocs]
  refine lv_iload_n hx hb dX8_place_0 rfl (lv_at hl 1 rfl) ?_
  refine lv_if_lt (tgt := 18) hx hb dX8_place_1 (by decide) (fun c => absurd c (by decide)) (fun _ => ?_)
  refine lv_iload_n hx hb dX8_place_4 rfl (lv_at hl 1 rfl) ?_
  refine lv_aload_n hx hb dX8_place_5 rfl (lv_at hl 0 rfl) ?_
  refine va_get (D := (dC, dI)) (ci := 8) (v := .int v0) (C := RX8) (T := TX8) (N := 9) hx hb hts (fun _ h => List.mem_cons_of_mem _ (List.mem_append_right _ h)) hown hK hP 0 rfl rfl 6 (by decide) (hts (.fieldLink RX8 30 "LeftArguments$Rows" "bags" "I") (List.mem_cons_of_mem _ (List.mem_append_left _ (List.mem_of_getElem? (i := 0) rfl)))) (fun _ h9 => h9) rfl dX8_place_6 ?_
  refine lv_icmp_ge (tgt := 18) hx hb dX8_place_9 (by decide) (fun c1 => ?_) (fun c1 => ?_)
  · skip
    have fc1 : v0.toInt ≤ 8 := Int32.le_iff_toInt_le.mp c1
    refine lv_iconst (v := 1) hx hb dX8_place_18 (by decide) ?_
    subst hQ
    have hP9 := hP.sub (ws' := (wd_47060168 h0 r0 r1 r2 r3 r4 r5 v0 v1 v2)) [0] rfl
    have hD9 := hD.sub (ws' := (wd_47060168 h0 r0 r1 r2 r3 r4 r5 v0 v1 v2)) [0] (by decide) rfl
    have hK9 := hK.sub (tys' := []) [] rfl
    exact W.zret (v := 1) hx hb hr rfl (fun t ht hW => ⟨⟨1, (), rfl, ⟨by first | omega | decide, by first | omega | decide⟩, by rw [ht]; exact hP9, va_K.moved hW.alike hK9, hD9⟩, hS.F ht⟩) hS.2.2 dX8_place_19
  · skip
    have fc1 : ¬ (v0.toInt ≤ 8) := fun h9 => c1 (Int32.le_iff_toInt_le.mpr h9)
    refine lv_iload_n hx hb dX8_place_12 rfl (lv_at hl 1 rfl) ?_
    refine lv_bipush (v := 8) hx hb dX8_place_13 (by decide) ?_
    refine lv_icmp_lt (tgt := 20) hx hb dX8_place_15 (by decide) (fun c => absurd c (by decide)) (fun _ => ?_)
    refine lv_iconst (v := 1) hx hb dX8_place_18 (by decide) ?_
    subst hQ
    have hP9 := hP.sub (ws' := (wd_47060168 h0 r0 r1 r2 r3 r4 r5 v0 v1 v2)) [0] rfl
    have hD9 := hD.sub (ws' := (wd_47060168 h0 r0 r1 r2 r3 r4 r5 v0 v1 v2)) [0] (by decide) rfl
    have hK9 := hK.sub (tys' := []) [] rfl
    exact W.zret (v := 1) hx hb hr rfl (fun t ht hW => ⟨⟨1, (), rfl, ⟨by first | omega | decide, by first | omega | decide⟩, by rw [ht]; exact hP9, va_K.moved hW.alike hK9, hD9⟩, hS.F ht⟩) hS.2.2 dX8_place_19
def q_X8_place_1 : List Cond := .code yX8_place cX8_place 5 (some .boolean) :: (([.fieldLink RX8 30 "LeftArguments$Rows" "bags" "I", .code yX8_standsWell cX8_standsWell 3 (some .boolean), .fieldLink RX8 37 "LeftArguments$Rows" "byRoom" "Z", .fieldLink RX8 27 "LeftArguments$Rows" "standing" "[I", .fieldLink RX8 15 "LeftArguments$Rows" "circles" "[I", .fieldLink RX8 24 "LeftArguments$Rows" "loads" "[I", .fieldLink RX8 9 "LeftArguments$Rows" "sizes" "[I", .fieldLink RX8 34 "LeftArguments$Rows" "wide" "I", .initialized RX8, .instanceMethod yX8_standsWell, .selects RX8 yX8_standsWell yX8_standsWell, .methodLink RX8 68 yX8_standsWell, .fieldLink RX8 21 "LeftArguments$Rows" "chosen" "[I", .fieldLink RX8 18 "LeftArguments$Rows" "places" "[I", .methodLink RX8 72 Lib.Math.max.name, .static Lib.Math.max.name, .initialized "java/lang/Math", .code Lib.Math.max.name Lib.Math.max.code 2 (some .int), .code yX8_place cX8_place 5 (some .boolean), .instanceMethod yX8_place, .selects RX8 yX8_place yX8_place, .methodLink RX8 64 yX8_place] : List Cond) ++ wsX80)
set_option maxRecDepth 20000 in
theorem g_X8_place_1_0 : GoodIn q_X8_place_1 (wsV RX8 68 RX8 yX8_standsWell q_X8_standsWell) := goodIn_app (goodIn_r _ [12, 10, 11, 9] rfl (by decide +kernel)) (goodIn_ca (goodIn_r (.code yX8_standsWell cX8_standsWell 3 (some .boolean) :: [.fieldLink RX8 37 "LeftArguments$Rows" "byRoom" "Z", .fieldLink RX8 27 "LeftArguments$Rows" "standing" "[I", .fieldLink RX8 15 "LeftArguments$Rows" "circles" "[I", .fieldLink RX8 24 "LeftArguments$Rows" "loads" "[I", .fieldLink RX8 9 "LeftArguments$Rows" "sizes" "[I", .fieldLink RX8 34 "LeftArguments$Rows" "wide" "I"]) [2, 3, 4, 5, 6, 7, 8] rfl (by decide +kernel)) (goodIn_sub (fun _ h => List.mem_cons_of_mem _ (List.mem_append_right _ h)) gwX8))
set_option maxRecDepth 20000 in
theorem g_X8_place_1_1 : GoodIn q_X8_place_1 (wsV RX8 64 RX8 yX8_place q_X8_place) := goodIn_app (goodIn_r _ [22, 20, 21, 9] rfl (by decide +kernel)) (goodIn_ca (goodIn_r (.code yX8_place cX8_place 5 (some .boolean) :: [.fieldLink RX8 30 "LeftArguments$Rows" "bags" "I"]) [19, 1] rfl (by decide +kernel)) (goodIn_sub (fun _ h => List.mem_cons_of_mem _ (List.mem_append_right _ h)) gwX8))
set_option maxHeartbeats 4000000 in
set_option maxRecDepth 100000 in
theorem k_X8_place_1 (l : Launch) (dC : Nat → ClassId) (dI : Nat → Nat → Nat) (h0 : Nat) (h1 : Nat) (h2 : Nat) (h3 : Nat) (h4 : Nat) (h5 : Nat) (h6 : Nat) (v0 : Int32) (v1 : Int32) (v2 : Int32) (g0 : ClassId) (f3 : Nat → Int32) (g1 : ClassId) (f4 : Nat → Int32) (g2 : ClassId) (f5 : Nat → Int32) (g3 : ClassId) (f6 : Nat → Int32) (g4 : ClassId) (f7 : Nat → Int32) (g5 : ClassId) (f8 : Nat → Int32) (v9 : Int32) (v10 : Int32) (i_v2 : 0 ≤ v2.toInt ∧ v2.toInt ≤ 1) (sz : Nat) : Met l yX8_place q_X8_place_1 ({ frames := 1, cells := 0, slots := 0, locals := 24 }) (va_Pc [.ref h0, .int 7, .int v9, .int v10] (fun U => U.heap.size = sz ∧ va_P (dC, dI) vwCl (wd_1ad5b18c h0 h1 h2 h3 h4 h5 h6 v0 v1 v2 h1 g0 f3 h2 g1 f4 h3 g2 f5 h4 g3 f6 h5 g4 f7 h6 g5 f8) U.heap ∧ va_K (dC, dI) vwCl [(g0, .int), (g1, .int), (g2, .int), (g3, .int), (g4, .int), (g5, .int)] U ∧ va_D (fun _ => True) (wd_1ad5b18c h0 h1 h2 h3 h4 h5 h6 v0 v1 v2 h1 g0 f3 h2 g1 f4 h3 g2 f5 h4 g3 f6 h5 g4 f7 h6 g5 f8))) (va_Qi (fun (r : Int32) (_ : Unit) => 0 ≤ r.toInt ∧ r.toInt ≤ 1) (fun (_ : Unit) (t : State) => ∃ (o_h4 : Nat → Int32) (o_h5 : Nat → Int32) (o_h6 : Nat → Int32), va_P (dC, dI) vwCl (wd_1ad5b18c h0 h1 h2 h3 h4 h5 h6 v0 v1 v2 h1 g0 f3 h2 g1 f4 h3 g2 f5 h4 g3 o_h4 h5 g4 o_h5 h6 g5 o_h6) t.heap ∧ va_K (dC, dI) vwCl [] t ∧ va_D (va_A (wd_1ad5b18c h0 h1 h2 h3 h4 h5 h6 v0 v1 v2 h1 g0 f3 h2 g1 f4 h3 g2 f5 h4 g3 f6 h5 g4 f7 h6 g5 f8) sz) (wd_1ad5b18c h0 h1 h2 h3 h4 h5 h6 v0 v1 v2 h1 g0 f3 h2 g1 f4 h3 g2 f5 h4 g3 o_h4 h5 g4 o_h5 h6 g5 o_h6)) (va_A (wd_1ad5b18c h0 h1 h2 h3 h4 h5 h6 v0 v1 v2 h1 g0 f3 h2 g1 f4 h3 g2 f5 h4 g3 f6 h5 g4 f7 h6 g5 f8) sz)) 0 0 (va_A (wd_1ad5b18c h0 h1 h2 h3 h4 h5 h6 v0 v1 v2 h1 g0 f3 h2 g1 f4 h3 g2 f5 h4 g3 f6 h5 g4 f7 h6 g5 f8) sz) := by
  refine Met.ofW (cc := cX8_place) (maxL := 5) (ret := (some .boolean)) (by decide) rfl ?_
  intro p e s m args below meth c s₁ B hml hv
  obtain ⟨i_v2a, i_v2b⟩ := i_v2
  obtain ⟨rfl, hsz, hP, hK, hD0⟩ := hv
  have hx := B.exec
  have hb := B.bytes
  have hr := B.returns
  have hts := atoms_spec (ws := q_X8_place_1) B.pre
  have hown : s.vm.findClass RX8 = some m.cls := findClass_of_methodNamed B.named
  have hlocks := B.notSynchronized
  subst hsz
  have hD := hD0.self (sz := s.heap.size)
  generalize hAe : va_A (wd_1ad5b18c h0 h1 h2 h3 h4 h5 h6 v0 v1 v2 h1 g0 f3 h2 g1 f4 h3 g2 f5 h4 g3 f6 h5 g4 f7 h6 g5 f8) s.heap.size = A at hD ⊢
  have hA : ∀ q : Nat, s.heap.size ≤ q → A q := fun q h => by rw [← hAe]; exact Or.inr h
  have hS : va_S A s.heap s.heap [] := va_S.rf
  generalize hQ : (MQ below _ _ s 0 0 A) = Q
  have hl := lv_entry ([.ref h0, .int 7, .int v9, .int v10]) (n := 5) (Nat.le_of_ble_eq_true rfl)
  rw [lg_entry_eq]
  generalize (lg_sl ([.ref h0, .int 7, .int v9, .int v10]) ++ List.replicate (5 - (lg_sl ([.ref h0, .int 7, .int v9, .int v10])).length) Slot.unset).toArray = ls at hl ⊢
  have hl : lv_has ls 5 [(0, .ref h0), (1, .int 7), (2, .int v9), (3, .int v10)] := hl
  obtain ⟨H, hH⟩ : ∃ H : Heap, H = s.heap := ⟨_, rfl⟩
  obtain ⟨locs, hlocs⟩ : ∃ y : List Loc, y = [] := ⟨_, rfl⟩
  have hS : va_S A s.heap H locs := by rw [hH, hlocs]; exact va_S.rf
  have hP : va_P (dC, dI) vwCl (wd_1ad5b18c h0 h1 h2 h3 h4 h5 h6 v0 v1 v2 h1 g0 f3 h2 g1 f4 h3 g2 f5 h4 g3 f6 h5 g4 f7 h6 g5 f8) H := by rw [hH]; exact hP
  rw [← hH, ← hlocs]
  refine lv_iload_n hx hb dX8_place_0 rfl (lv_at hl 1 rfl) ?_
  refine lv_if_lt (tgt := 18) hx hb dX8_place_1 (by decide) (fun c => absurd c (by decide)) (fun _ => ?_)
  refine lv_iload_n hx hb dX8_place_4 rfl (lv_at hl 1 rfl) ?_
  refine lv_aload_n hx hb dX8_place_5 rfl (lv_at hl 0 rfl) ?_
  refine va_get (D := (dC, dI)) (ci := 8) (v := .int v0) (C := RX8) (T := TX8) (N := 9) hx hb hts (fun _ h => List.mem_cons_of_mem _ (List.mem_append_right _ h)) hown hK hP 0 rfl rfl 6 (by decide) (hts (.fieldLink RX8 30 "LeftArguments$Rows" "bags" "I") (List.mem_cons_of_mem _ (List.mem_append_left _ (List.mem_of_getElem? (i := 0) rfl)))) (fun _ h9 => h9) rfl dX8_place_6 ?_
  refine lv_icmp_ge (tgt := 18) hx hb dX8_place_9 (by decide) (fun c1 => ?_) (fun c1 => ?_)
  · skip
    have fc1 : v0.toInt ≤ 7 := Int32.le_iff_toInt_le.mp c1
    refine lv_iconst (v := 1) hx hb dX8_place_18 (by decide) ?_
    subst hQ
    have hP9 := hP.sub (ws' := (wd_1ad5b18c h0 h1 h2 h3 h4 h5 h6 v0 v1 v2 h1 g0 f3 h2 g1 f4 h3 g2 f5 h4 g3 f6 h5 g4 f7 h6 g5 f8)) [0, 1, 2, 3, 4, 5, 6] rfl
    have hD9 := hD.sub (ws' := (wd_1ad5b18c h0 h1 h2 h3 h4 h5 h6 v0 v1 v2 h1 g0 f3 h2 g1 f4 h3 g2 f5 h4 g3 f6 h5 g4 f7 h6 g5 f8)) [0, 1, 2, 3, 4, 5, 6] (by decide) rfl
    have hK9 := hK.sub (tys' := []) [] rfl
    exact W.zret (v := 1) hx hb hr rfl (fun t ht hW => ⟨⟨1, (), rfl, ⟨by first | omega | decide, by first | omega | decide⟩, f6, f7, f8, by rw [ht]; exact hP9, va_K.moved hW.alike hK9, hD9⟩, hS.F ht⟩) hS.2.2 dX8_place_19
  · skip
    have fc1 : ¬ (v0.toInt ≤ 7) := fun h9 => c1 (Int32.le_iff_toInt_le.mpr h9)
    refine lv_iload_n hx hb dX8_place_12 rfl (lv_at hl 1 rfl) ?_
    refine lv_bipush (v := 8) hx hb dX8_place_13 (by decide) ?_
    refine lv_icmp_lt (tgt := 20) hx hb dX8_place_15 (by decide) (fun _ => ?_) (fun c => absurd (by decide) c)
    refine lv_iconst (v := 0) hx hb dX8_place_20 (by decide) ?_
    refine lv_istore (lv' := [(4, .int 0), (0, .ref h0), (1, .int 7), (2, .int v9), (3, .int v10)]) hx hb dX8_place_21 hl (by decide) rfl (fun ls hl => ?_)
    have hL7 : ∀ (n9 : Nat), ∀ (x5 : Int32) (H : Heap) (locs : List Loc) (ls : Array Slot), 0 ≤ x5.toInt → x5.toInt ≤ 8 → (8 - x5.toInt).toNat < n9 → va_P (dC, dI) vwCl (wd_1ad5b18c h0 h1 h2 h3 h4 h5 h6 v0 v1 v2 h1 g0 f3 h2 g1 f4 h3 g2 f5 h4 g3 f6 h5 g4 f7 h6 g5 f8) H → va_D A (wd_1ad5b18c h0 h1 h2 h3 h4 h5 h6 v0 v1 v2 h1 g0 f3 h2 g1 f4 h3 g2 f5 h4 g3 f6 h5 g4 f7 h6 g5 f8) → va_S A s.heap H locs → lv_has ls 5 [(4, .int x5), (0, .ref h0), (1, .int 7), (2, .int v9), (3, .int v10)] → W p l e ({ frames := 1, cells := 0, slots := 0, locals := 24 }) s m ([.ref h0, .int 7, .int v9, .int v10] : List Value).toArray below meth c H locs 0 0 Q (F0 m 23 ls []) := by
      intro n9
      induction n9 with
      | zero => intro x5 H locs ls qa_x5 qb_x5 hm9 hP hD hS hl; exact absurd hm9 (Nat.not_lt_zero _)
      | succ n9 ih_hL7 =>
        intro x5 H locs ls qa_x5 qb_x5 hm9 hP hD hS hl
        refine lv_iload hx hb dX8_place_23 (lv_at hl 0 rfl) ?_
        refine lv_iload_n hx hb dX8_place_25 rfl (lv_at hl 3 rfl) ?_
        refine lv_icmp_gt (tgt := 157) hx hb dX8_place_26 (by decide) (fun c8 => ?_) (fun c8 => ?_)
        · skip
          have fc8 : v9.toInt < x5.toInt := Int32.lt_iff_toInt_lt.mp c8
          have r1c8 := Int32.toInt_lt x5
          have r2c8 := Int32.toInt_lt v9
          have r3c8 := Int32.le_toInt x5
          have r4c8 := Int32.le_toInt v9
          refine lv_iconst (v := 0) hx hb dX8_place_157 (by decide) ?_
          subst hQ
          have hP9 := hP.sub (ws' := (wd_1ad5b18c h0 h1 h2 h3 h4 h5 h6 v0 v1 v2 h1 g0 f3 h2 g1 f4 h3 g2 f5 h4 g3 f6 h5 g4 f7 h6 g5 f8)) [0, 1, 2, 3, 4, 5, 6] rfl
          have hD9 := hD.sub (ws' := (wd_1ad5b18c h0 h1 h2 h3 h4 h5 h6 v0 v1 v2 h1 g0 f3 h2 g1 f4 h3 g2 f5 h4 g3 f6 h5 g4 f7 h6 g5 f8)) [0, 1, 2, 3, 4, 5, 6] (by decide) rfl
          have hK9 := hK.sub (tys' := []) [] rfl
          exact W.zret (v := 0) hx hb hr rfl (fun t ht hW => ⟨⟨0, (), rfl, ⟨by first | omega | decide, by first | omega | decide⟩, f6, f7, f8, by rw [ht]; exact hP9, va_K.moved hW.alike hK9, hD9⟩, hS.F ht⟩) hS.2.2 dX8_place_158
        · skip
          have fc8 : ¬ (v9.toInt < x5.toInt) := fun h9 => c8 (Int32.lt_iff_toInt_lt.mpr h9)
          have r1c8 := Int32.toInt_lt x5
          have r2c8 := Int32.toInt_lt v9
          have r3c8 := Int32.le_toInt x5
          have r4c8 := Int32.le_toInt v9
          refine lv_iload hx hb dX8_place_29 (lv_at hl 0 rfl) ?_
          refine lv_iload_n hx hb dX8_place_31 rfl (lv_at hl 4 rfl) ?_
          refine lv_icmp_ge (tgt := 157) hx hb dX8_place_32 (by decide) (fun c9 => ?_) (fun c9 => ?_)
          · skip
            have fc9 : v10.toInt ≤ x5.toInt := Int32.le_iff_toInt_le.mp c9
            have r1c9 := Int32.toInt_lt x5
            have r2c9 := Int32.toInt_lt v10
            have r3c9 := Int32.le_toInt x5
            have r4c9 := Int32.le_toInt v10
            refine lv_iconst (v := 0) hx hb dX8_place_157 (by decide) ?_
            subst hQ
            have hP9 := hP.sub (ws' := (wd_1ad5b18c h0 h1 h2 h3 h4 h5 h6 v0 v1 v2 h1 g0 f3 h2 g1 f4 h3 g2 f5 h4 g3 f6 h5 g4 f7 h6 g5 f8)) [0, 1, 2, 3, 4, 5, 6] rfl
            have hD9 := hD.sub (ws' := (wd_1ad5b18c h0 h1 h2 h3 h4 h5 h6 v0 v1 v2 h1 g0 f3 h2 g1 f4 h3 g2 f5 h4 g3 f6 h5 g4 f7 h6 g5 f8)) [0, 1, 2, 3, 4, 5, 6] (by decide) rfl
            have hK9 := hK.sub (tys' := []) [] rfl
            exact W.zret (v := 0) hx hb hr rfl (fun t ht hW => ⟨⟨0, (), rfl, ⟨by first | omega | decide, by first | omega | decide⟩, f6, f7, f8, by rw [ht]; exact hP9, va_K.moved hW.alike hK9, hD9⟩, hS.F ht⟩) hS.2.2 dX8_place_158
          · skip
            have fc9 : ¬ (v10.toInt ≤ x5.toInt) := fun h9 => c9 (Int32.le_iff_toInt_le.mpr h9)
            have r1c9 := Int32.toInt_lt x5
            have r2c9 := Int32.toInt_lt v10
            have r3c9 := Int32.le_toInt x5
            have r4c9 := Int32.le_toInt v10
            refine lv_iload hx hb dX8_place_35 (lv_at hl 0 rfl) ?_
            refine lv_bipush (v := 8) hx hb dX8_place_37 (by decide) ?_
            refine lv_icmp_ge (tgt := 157) hx hb dX8_place_39 (by decide) (fun c10 => ?_) (fun c10 => ?_)
            · skip
              have fc10 : 8 ≤ x5.toInt := Int32.le_iff_toInt_le.mp c10
              refine lv_iconst (v := 0) hx hb dX8_place_157 (by decide) ?_
              subst hQ
              have hP9 := hP.sub (ws' := (wd_1ad5b18c h0 h1 h2 h3 h4 h5 h6 v0 v1 v2 h1 g0 f3 h2 g1 f4 h3 g2 f5 h4 g3 f6 h5 g4 f7 h6 g5 f8)) [0, 1, 2, 3, 4, 5, 6] rfl
              have hD9 := hD.sub (ws' := (wd_1ad5b18c h0 h1 h2 h3 h4 h5 h6 v0 v1 v2 h1 g0 f3 h2 g1 f4 h3 g2 f5 h4 g3 f6 h5 g4 f7 h6 g5 f8)) [0, 1, 2, 3, 4, 5, 6] (by decide) rfl
              have hK9 := hK.sub (tys' := []) [] rfl
              exact W.zret (v := 0) hx hb hr rfl (fun t ht hW => ⟨⟨0, (), rfl, ⟨by first | omega | decide, by first | omega | decide⟩, f6, f7, f8, by rw [ht]; exact hP9, va_K.moved hW.alike hK9, hD9⟩, hS.F ht⟩) hS.2.2 dX8_place_158
            · skip
              have fc10 : ¬ (8 ≤ x5.toInt) := fun h9 => c10 (Int32.le_iff_toInt_le.mpr h9)
              refine lv_aload_n hx hb dX8_place_42 rfl (lv_at hl 1 rfl) ?_
              refine lv_iload_n hx hb dX8_place_43 rfl (lv_at hl 2 rfl) ?_
              refine lv_iload hx hb dX8_place_44 (lv_at hl 0 rfl) ?_
              have hPc := hP.sub (ws' := (wd_62728821 h0 h1 h2 h3 h4 h5 h6 v0 v1 v2 h1 g0 f3 h2 g1 f4 h5 g4 f7 h6 g5 f8)) [0, 1, 2, 5, 6] rfl
              have hDc := hD.sub (ws' := (wd_62728821 h0 h1 h2 h3 h4 h5 h6 v0 v1 v2 h1 g0 f3 h2 g1 f4 h5 g4 f7 h6 g5 f8)) [0, 1, 2, 5, 6] (by decide) rfl
              have hKc := hK.sub (tys' := [(g0, .int), (g1, .int), (g4, .int), (g5, .int)]) [0, 1, 4, 5] rfl
              have hFc := va_free (wc := (wd_62728821 h0 h1 h2 h3 h4 h5 h6 v0 v1 v2 h1 g0 f3 h2 g1 f4 h5 g4 f7 h6 g5 f8)) hD hS hA [0, 1, 2, 5, 6] rfl
              refine va_calli (va_runV (As := [.int 7, .int x5]) (rest := []) ⟨hx, hb, hml, hown, hts⟩ (k_X8_standsWell l dC dI h0 h1 h2 h5 h6 h3 h4 v0 v1 v2 g0 f3 g1 f4 g4 f7 g5 f8 7 x5 ⟨i_v2a, i_v2b⟩ H.size) (cwV 2 hts g_X8_place_1_0 rfl rfl rfl (by decide +kernel) ⟨Nat.le_of_ble_eq_true rfl, Nat.le_of_ble_eq_true rfl⟩) (pv_PV8 hPc hKc hDc (q0 := 0) rfl) rfl rfl hl.1 rfl (lv_room (Nat.le_of_ble_eq_true rfl)) dX8_place_46 ⟨Nat.le_of_ble_eq_true rfl, Nat.le_of_ble_eq_true rfl⟩) hS (fun q _ h => hFc q h) hFc (fun ra11 u t H1 locs ht hvm hwra11 hB hz1 hk1 hS => ?_)
              obtain ⟨hP1, hK1, hD1⟩ := hB
              rw [ht] at hP1
              obtain ⟨hP2, hD2⟩ := va_join (wr := (wd_c3b6304c h3 g2 f5 h4 g3 f6)) (w1 := (wd_62728821 h0 h1 h2 h3 h4 h5 h6 v0 v1 v2 h1 g0 f3 h2 g1 f4 h5 g4 f7 h6 g5 f8)) hP hD [0, 1, 2, 5, 6] [3, 4] rfl rfl (by decide) (by decide) hk1 hFc hP1 hD1
              clear hP hD hPc hDc hKc hFc hP1 hK1 hD1 hk1 hz1
              generalize H1 = H at hP2 hS ⊢
              have hP := hP2.sub (ws' := (wd_1ad5b18c h0 h1 h2 h3 h4 h5 h6 v0 v1 v2 h1 g0 f3 h2 g1 f4 h3 g2 f5 h4 g3 f6 h5 g4 f7 h6 g5 f8)) [2, 3, 4, 0, 1, 5, 6] rfl
              have hD := hD2.sub (ws' := (wd_1ad5b18c h0 h1 h2 h3 h4 h5 h6 v0 v1 v2 h1 g0 f3 h2 g1 f4 h3 g2 f5 h4 g3 f6 h5 g4 f7 h6 g5 f8)) [2, 3, 4, 0, 1, 5, 6] (by decide) rfl
              clear hP2 hD2
              obtain ⟨wa_ra11, wb_ra11⟩ := hwra11
              have wa_ra11 : 0 ≤ ra11.toInt := wa_ra11
              have wb_ra11 : ra11.toInt ≤ 1 := wb_ra11
              refine lv_if_eq (tgt := 151) hx hb dX8_place_49 (by decide) (fun c12 => ?_) (fun c12 => ?_)
              · skip
                have fc12 : ra11.toInt = 0 := congrArg Int32.toInt c12
                obtain ⟨t13, et13⟩ : ∃ y : Int32, y = x5 + 1 := ⟨_, rfl⟩
                have gt13 : t13.toInt = x5.toInt + (1) := pv_add (a := x5.toInt) (b := (1)) et13 rfl (by decide) (by omega) (by omega)
                refine lv_iinc (v := t13) (lv' := [(4, .int t13), (0, .ref h0), (1, .int 7), (2, .int v9), (3, .int v10)]) hx hb dX8_place_151 hl (k := 0) rfl (by rw [et13]; rfl) (by decide) rfl (fun ls hl => ?_)
                refine lv_goto (tgt := 23) hx hb dX8_place_154 (by decide) ?_
                exact ih_hL7 t13 H locs ls (by first | omega | decide) (by first | omega | decide) (by first | omega | (simp only [Int.toNat] at *; omega)) hP hD hS (lv_sub hl [0, 1, 2, 3, 4] rfl)
              · skip
                have fc12 : ¬ (ra11.toInt = 0) := fun h9 => c12 (Int32.toInt_inj.mp h9)
                refine lv_aload_n hx hb dX8_place_52 rfl (lv_at hl 1 rfl) ?_
                refine va_get (D := (dC, dI)) (ci := 8) (v := .ref h4) (C := RX8) (T := TX8) (N := 9) hx hb hts (fun _ h => List.mem_cons_of_mem _ (List.mem_append_right _ h)) hown hK hP 0 rfl rfl 3 (by decide) (hts (.fieldLink RX8 21 "LeftArguments$Rows" "chosen" "[I") (List.mem_cons_of_mem _ (List.mem_append_left _ (List.mem_of_getElem? (i := 12) rfl)))) (fun _ h9 => h9) rfl dX8_place_53 ?_
                refine lv_iload_n hx hb dX8_place_56 rfl (lv_at hl 2 rfl) ?_
                refine lv_iload hx hb dX8_place_57 (lv_at hl 0 rfl) ?_
                refine va_iast hx hb hK hP hD hS 4 3 rfl rfl (pv_c (x := 7) (n := 8) (by decide)) dX8_place_59 (fun H locs hP hD hS => ?_)
                obtain ⟨fn14, efn14⟩ : ∃ g : Nat → Int32, g = upd f6 (Int32.toNatClampNeg 7) x5 := ⟨_, rfl⟩
                rw [← efn14] at hP hD
                have hP : va_P (dC, dI) vwCl (wd_1ad5b18c h0 h1 h2 h3 h4 h5 h6 v0 v1 v2 h1 g0 f3 h2 g1 f4 h3 g2 f5 h4 g3 fn14 h5 g4 f7 h6 g5 f8) H := hP
                have hD : va_D A (wd_1ad5b18c h0 h1 h2 h3 h4 h5 h6 v0 v1 v2 h1 g0 f3 h2 g1 f4 h3 g2 f5 h4 g3 fn14 h5 g4 f7 h6 g5 f8) := hD
                refine lv_aload_n hx hb dX8_place_60 rfl (lv_at hl 1 rfl) ?_
                refine va_get (D := (dC, dI)) (ci := 8) (v := .ref h5) (C := RX8) (T := TX8) (N := 9) hx hb hts (fun _ h => List.mem_cons_of_mem _ (List.mem_append_right _ h)) hown hK hP 0 rfl rfl 4 (by decide) (hts (.fieldLink RX8 24 "LeftArguments$Rows" "loads" "[I") (List.mem_cons_of_mem _ (List.mem_append_left _ (List.mem_of_getElem? (i := 5) rfl)))) (fun _ h9 => h9) rfl dX8_place_61 ?_
                refine lv_iload hx hb dX8_place_64 (lv_at hl 0 rfl) ?_
                refine lv_dup2_11 hx hb dX8_place_66 rfl rfl ?_
                refine va_iald hx hb hK hP 5 4 rfl rfl (vp_in_iff.mpr ⟨by omega, by omega⟩) dX8_place_67 ?_
                refine lv_topi (fun t15 et15 => ?_)
                refine lv_aload_n hx hb dX8_place_68 rfl (lv_at hl 1 rfl) ?_
                refine va_get (D := (dC, dI)) (ci := 8) (v := .ref h1) (C := RX8) (T := TX8) (N := 9) hx hb hts (fun _ h => List.mem_cons_of_mem _ (List.mem_append_right _ h)) hown hK hP 0 rfl rfl 0 (by decide) (hts (.fieldLink RX8 9 "LeftArguments$Rows" "sizes" "[I") (List.mem_cons_of_mem _ (List.mem_append_left _ (List.mem_of_getElem? (i := 6) rfl)))) (fun _ h9 => h9) rfl dX8_place_69 ?_
                refine lv_iload_n hx hb dX8_place_72 rfl (lv_at hl 2 rfl) ?_
                refine va_iald hx hb hK hP 1 0 rfl rfl (pv_c (x := 7) (n := 8) (by decide)) dX8_place_73 ?_
                refine lv_topi (fun t16 et16 => ?_)
                refine lv_iadd hx hb dX8_place_74 ?_
                refine lv_topi (fun t17 et17 => ?_)
                refine va_iast hx hb hK hP hD hS 5 4 rfl rfl (vp_in_iff.mpr ⟨by omega, by omega⟩) dX8_place_75 (fun H locs hP hD hS => ?_)
                obtain ⟨fn18, efn18⟩ : ∃ g : Nat → Int32, g = upd f7 (Int32.toNatClampNeg x5) t17 := ⟨_, rfl⟩
                rw [← efn18] at hP hD
                have hP : va_P (dC, dI) vwCl (wd_1ad5b18c h0 h1 h2 h3 h4 h5 h6 v0 v1 v2 h1 g0 f3 h2 g1 f4 h3 g2 f5 h4 g3 fn14 h5 g4 fn18 h6 g5 f8) H := hP
                have hD : va_D A (wd_1ad5b18c h0 h1 h2 h3 h4 h5 h6 v0 v1 v2 h1 g0 f3 h2 g1 f4 h3 g2 f5 h4 g3 fn14 h5 g4 fn18 h6 g5 f8) := hD
                refine lv_aload_n hx hb dX8_place_76 rfl (lv_at hl 1 rfl) ?_
                refine va_get (D := (dC, dI)) (ci := 8) (v := .ref h6) (C := RX8) (T := TX8) (N := 9) hx hb hts (fun _ h => List.mem_cons_of_mem _ (List.mem_append_right _ h)) hown hK hP 0 rfl rfl 5 (by decide) (hts (.fieldLink RX8 27 "LeftArguments$Rows" "standing" "[I") (List.mem_cons_of_mem _ (List.mem_append_left _ (List.mem_of_getElem? (i := 3) rfl)))) (fun _ h9 => h9) rfl dX8_place_77 ?_
                refine lv_iload hx hb dX8_place_80 (lv_at hl 0 rfl) ?_
                refine lv_dup2_11 hx hb dX8_place_82 rfl rfl ?_
                refine va_iald hx hb hK hP 6 5 rfl rfl (vp_in_iff.mpr ⟨by omega, by omega⟩) dX8_place_83 ?_
                refine lv_topi (fun t19 et19 => ?_)
                refine lv_iconst (v := 1) hx hb dX8_place_84 (by decide) ?_
                refine lv_aload_n hx hb dX8_place_85 rfl (lv_at hl 1 rfl) ?_
                refine va_get (D := (dC, dI)) (ci := 8) (v := .ref h3) (C := RX8) (T := TX8) (N := 9) hx hb hts (fun _ h => List.mem_cons_of_mem _ (List.mem_append_right _ h)) hown hK hP 0 rfl rfl 2 (by decide) (hts (.fieldLink RX8 18 "LeftArguments$Rows" "places" "[I") (List.mem_cons_of_mem _ (List.mem_append_left _ (List.mem_of_getElem? (i := 13) rfl)))) (fun _ h9 => h9) rfl dX8_place_86 ?_
                refine lv_iload_n hx hb dX8_place_89 rfl (lv_at hl 2 rfl) ?_
                refine va_iald hx hb hK hP 3 2 rfl rfl (pv_c (x := 7) (n := 8) (by decide)) dX8_place_90 ?_
                refine lv_topi (fun t20 et20 => ?_)
                refine lv_ishl hx hb dX8_place_91 ?_
                refine lv_topi (fun t21 et21 => ?_)
                refine lv_ior hx hb dX8_place_92 ?_
                refine lv_topi (fun t22 et22 => ?_)
                refine va_iast hx hb hK hP hD hS 6 5 rfl rfl (vp_in_iff.mpr ⟨by omega, by omega⟩) dX8_place_93 (fun H locs hP hD hS => ?_)
                obtain ⟨fn23, efn23⟩ : ∃ g : Nat → Int32, g = upd f8 (Int32.toNatClampNeg x5) t22 := ⟨_, rfl⟩
                rw [← efn23] at hP hD
                have hP : va_P (dC, dI) vwCl (wd_1ad5b18c h0 h1 h2 h3 h4 h5 h6 v0 v1 v2 h1 g0 f3 h2 g1 f4 h3 g2 f5 h4 g3 fn14 h5 g4 fn18 h6 g5 fn23) H := hP
                have hD : va_D A (wd_1ad5b18c h0 h1 h2 h3 h4 h5 h6 v0 v1 v2 h1 g0 f3 h2 g1 f4 h3 g2 f5 h4 g3 fn14 h5 g4 fn18 h6 g5 fn23) := hD
                refine lv_aload_n hx hb dX8_place_94 rfl (lv_at hl 1 rfl) ?_
                refine lv_iload_n hx hb dX8_place_95 rfl (lv_at hl 2 rfl) ?_
                refine lv_iconst (v := 1) hx hb dX8_place_96 (by decide) ?_
                refine lv_iadd hx hb dX8_place_97 ?_
                refine lv_topi (fun tv24 etv24 => ?_)
                obtain rfl : tv24 = (8 : Int32) := etv24.trans (by first | rfl | decide)
                refine lv_iload_n hx hb dX8_place_98 rfl (lv_at hl 3 rfl) ?_
                refine lv_iload hx hb dX8_place_99 (lv_at hl 0 rfl) ?_
                refine lv_iconst (v := 1) hx hb dX8_place_101 (by decide) ?_
                refine lv_iadd hx hb dX8_place_102 ?_
                refine lv_topi (fun t25 et25 => ?_)
                have gt25 : t25.toInt = x5.toInt + 1 := pv_add (a := x5.toInt) (b := 1) et25 rfl (by decide) (by omega) (by omega)
                refine va_mmax hx hb (by rw [hml]; exact hl.1.symm) hown (hts (.methodLink RX8 72 Lib.Math.max.name) (List.mem_cons_of_mem _ (List.mem_append_left _ (List.mem_of_getElem? (i := 14) rfl)))) (hts (.static Lib.Math.max.name) (List.mem_cons_of_mem _ (List.mem_append_left _ (List.mem_of_getElem? (i := 15) rfl)))) (hts (.initialized "java/lang/Math") (List.mem_cons_of_mem _ (List.mem_append_left _ (List.mem_of_getElem? (i := 16) rfl)))) (hts (.code Lib.Math.max.name Lib.Math.max.code 2 (some .int)) (List.mem_cons_of_mem _ (List.mem_append_left _ (List.mem_of_getElem? (i := 17) rfl)))) (Nat.le_of_ble_eq_true rfl) (Nat.le_of_ble_eq_true rfl) (Nat.le_of_ble_eq_true rfl) (Nat.le_of_ble_eq_true rfl) dX8_place_103 ?_
                refine lv_topi (fun t26 et26 => ?_)
                obtain ⟨gat26, gbt26, gct26⟩ := pv_max (a := v9.toInt) (b := t25.toInt) et26 rfl rfl
                refine lv_iload_n hx hb dX8_place_106 rfl (lv_at hl 4 rfl) ?_
                have hPc := hP.sub (ws' := (wd_47060168 h0 h1 h2 h3 h4 h5 h6 v0 v1 v2)) [0] rfl
                have hDc := hD.sub (ws' := (wd_47060168 h0 h1 h2 h3 h4 h5 h6 v0 v1 v2)) [0] (by decide) rfl
                have hKc := hK.sub (tys' := []) [] rfl
                have hFc := va_free (wc := (wd_47060168 h0 h1 h2 h3 h4 h5 h6 v0 v1 v2)) hD hS hA [0] rfl
                refine va_calli (va_runV (As := [.int 8, .int t26, .int v10]) (rest := []) ⟨hx, hb, hml, hown, hts⟩ (k_X8_place l dC dI h0 h1 h2 h3 h4 h5 h6 v0 v1 v2 t26 v10 ⟨i_v2a, i_v2b⟩ H.size) (cwV 3 hts g_X8_place_1_1 rfl rfl rfl (by decide +kernel) ⟨Nat.le_of_ble_eq_true rfl, Nat.le_of_ble_eq_true rfl⟩) (pv_PV8 hPc hKc hDc (q0 := 0) rfl) rfl rfl hl.1 rfl (lv_room (Nat.le_of_ble_eq_true rfl)) dX8_place_107 ⟨Nat.le_of_ble_eq_true rfl, Nat.le_of_ble_eq_true rfl⟩) hS (fun q _ h => hFc q h) hFc (fun ra27 u t H1 locs ht hvm hwra27 hB hz1 hk1 hS => ?_)
                obtain ⟨hP1, hK1, hD1⟩ := hB
                rw [ht] at hP1
                obtain ⟨hP2, hD2⟩ := va_join (wr := (wd_b9b0151d h1 g0 f3 h2 g1 f4 h3 g2 f5 h4 g3 fn14 h5 g4 fn18 h6 g5 fn23)) (w1 := (wd_47060168 h0 h1 h2 h3 h4 h5 h6 v0 v1 v2)) hP hD [0] [1, 2, 3, 4, 5, 6] rfl rfl (by decide) (by decide) hk1 hFc hP1 hD1
                clear hP hD hPc hDc hKc hFc hP1 hK1 hD1 hk1 hz1
                generalize H1 = H at hP2 hS ⊢
                have hP := hP2.sub (ws' := (wd_1ad5b18c h0 h1 h2 h3 h4 h5 h6 v0 v1 v2 h1 g0 f3 h2 g1 f4 h3 g2 f5 h4 g3 fn14 h5 g4 fn18 h6 g5 fn23)) [6, 0, 1, 2, 3, 4, 5] rfl
                have hD := hD2.sub (ws' := (wd_1ad5b18c h0 h1 h2 h3 h4 h5 h6 v0 v1 v2 h1 g0 f3 h2 g1 f4 h3 g2 f5 h4 g3 fn14 h5 g4 fn18 h6 g5 fn23)) [6, 0, 1, 2, 3, 4, 5] (by decide) rfl
                clear hP2 hD2
                obtain ⟨wa_ra27, wb_ra27⟩ := hwra27
                have wa_ra27 : 1 ≤ ra27.toInt := wa_ra27
                have wb_ra27 : ra27.toInt ≤ 1 := wb_ra27
                refine lv_if_eq (tgt := 115) hx hb dX8_place_110 (by decide) (fun c28 => by exfalso; have fc28 : ra27.toInt = 0 := congrArg Int32.toInt c28; omega) (fun _ => ?_)
                refine lv_iconst (v := 1) hx hb dX8_place_113 (by decide) ?_
                subst hQ
                have hP9 := hP.sub (ws' := (wd_1ad5b18c h0 h1 h2 h3 h4 h5 h6 v0 v1 v2 h1 g0 f3 h2 g1 f4 h3 g2 f5 h4 g3 fn14 h5 g4 fn18 h6 g5 fn23)) [0, 1, 2, 3, 4, 5, 6] rfl
                have hD9 := hD.sub (ws' := (wd_1ad5b18c h0 h1 h2 h3 h4 h5 h6 v0 v1 v2 h1 g0 f3 h2 g1 f4 h3 g2 f5 h4 g3 fn14 h5 g4 fn18 h6 g5 fn23)) [0, 1, 2, 3, 4, 5, 6] (by decide) rfl
                have hK9 := hK.sub (tys' := []) [] rfl
                exact W.zret (v := 1) hx hb hr rfl (fun t ht hW => ⟨⟨1, (), rfl, ⟨by first | omega | decide, by first | omega | decide⟩, fn14, fn18, fn23, by rw [ht]; exact hP9, va_K.moved hW.alike hK9, hD9⟩, hS.F ht⟩) hS.2.2 dX8_place_114
    exact hL7 _ 0 H locs ls (by decide) (by decide) (Nat.lt_succ_self _) hP hD hS (lv_sub hl [0, 1, 2, 3, 4] rfl)
def q_X8_place_2 : List Cond := .code yX8_place cX8_place 5 (some .boolean) :: (([.fieldLink RX8 30 "LeftArguments$Rows" "bags" "I", .code yX8_standsWell cX8_standsWell 3 (some .boolean), .fieldLink RX8 37 "LeftArguments$Rows" "byRoom" "Z", .fieldLink RX8 27 "LeftArguments$Rows" "standing" "[I", .fieldLink RX8 15 "LeftArguments$Rows" "circles" "[I", .fieldLink RX8 24 "LeftArguments$Rows" "loads" "[I", .fieldLink RX8 9 "LeftArguments$Rows" "sizes" "[I", .fieldLink RX8 34 "LeftArguments$Rows" "wide" "I", .initialized RX8, .instanceMethod yX8_standsWell, .selects RX8 yX8_standsWell yX8_standsWell, .methodLink RX8 68 yX8_standsWell, .fieldLink RX8 21 "LeftArguments$Rows" "chosen" "[I", .fieldLink RX8 18 "LeftArguments$Rows" "places" "[I", .methodLink RX8 72 Lib.Math.max.name, .static Lib.Math.max.name, .initialized "java/lang/Math", .code Lib.Math.max.name Lib.Math.max.code 2 (some .int), .code yX8_place cX8_place 5 (some .boolean), .instanceMethod yX8_place, .selects RX8 yX8_place yX8_place, .methodLink RX8 64 yX8_place] : List Cond) ++ wsX80)
set_option maxRecDepth 20000 in
theorem g_X8_place_2_0 : GoodIn q_X8_place_2 (wsV RX8 68 RX8 yX8_standsWell q_X8_standsWell) := goodIn_app (goodIn_r _ [12, 10, 11, 9] rfl (by decide +kernel)) (goodIn_ca (goodIn_r (.code yX8_standsWell cX8_standsWell 3 (some .boolean) :: [.fieldLink RX8 37 "LeftArguments$Rows" "byRoom" "Z", .fieldLink RX8 27 "LeftArguments$Rows" "standing" "[I", .fieldLink RX8 15 "LeftArguments$Rows" "circles" "[I", .fieldLink RX8 24 "LeftArguments$Rows" "loads" "[I", .fieldLink RX8 9 "LeftArguments$Rows" "sizes" "[I", .fieldLink RX8 34 "LeftArguments$Rows" "wide" "I"]) [2, 3, 4, 5, 6, 7, 8] rfl (by decide +kernel)) (goodIn_sub (fun _ h => List.mem_cons_of_mem _ (List.mem_append_right _ h)) gwX8))
set_option maxRecDepth 20000 in
theorem g_X8_place_2_1 : GoodIn q_X8_place_2 (wsV RX8 64 RX8 yX8_place q_X8_place_1) := goodIn_app (goodIn_r _ [22, 20, 21, 9] rfl (by decide +kernel)) (goodIn_ca (goodIn_r (.code yX8_place cX8_place 5 (some .boolean) :: [.fieldLink RX8 30 "LeftArguments$Rows" "bags" "I", .code yX8_standsWell cX8_standsWell 3 (some .boolean), .fieldLink RX8 37 "LeftArguments$Rows" "byRoom" "Z", .fieldLink RX8 27 "LeftArguments$Rows" "standing" "[I", .fieldLink RX8 15 "LeftArguments$Rows" "circles" "[I", .fieldLink RX8 24 "LeftArguments$Rows" "loads" "[I", .fieldLink RX8 9 "LeftArguments$Rows" "sizes" "[I", .fieldLink RX8 34 "LeftArguments$Rows" "wide" "I", .initialized RX8, .instanceMethod yX8_standsWell, .selects RX8 yX8_standsWell yX8_standsWell, .methodLink RX8 68 yX8_standsWell, .fieldLink RX8 21 "LeftArguments$Rows" "chosen" "[I", .fieldLink RX8 18 "LeftArguments$Rows" "places" "[I", .methodLink RX8 72 Lib.Math.max.name, .static Lib.Math.max.name, .initialized "java/lang/Math", .code Lib.Math.max.name Lib.Math.max.code 2 (some .int), .code yX8_place cX8_place 5 (some .boolean), .instanceMethod yX8_place, .selects RX8 yX8_place yX8_place, .methodLink RX8 64 yX8_place]) [19, 1, 2, 3, 4, 5, 6, 7, 8, 9, 10, 11, 12, 13, 14, 15, 16, 17, 18, 19, 20, 21, 22] rfl (by decide +kernel)) (goodIn_sub (fun _ h => List.mem_cons_of_mem _ (List.mem_append_right _ h)) gwX8))
set_option maxHeartbeats 4000000 in
set_option maxRecDepth 100000 in
theorem k_X8_place_2 (l : Launch) (dC : Nat → ClassId) (dI : Nat → Nat → Nat) (h0 : Nat) (h1 : Nat) (h2 : Nat) (h3 : Nat) (h4 : Nat) (h5 : Nat) (h6 : Nat) (v0 : Int32) (v1 : Int32) (v2 : Int32) (g0 : ClassId) (f3 : Nat → Int32) (g1 : ClassId) (f4 : Nat → Int32) (g2 : ClassId) (f5 : Nat → Int32) (g3 : ClassId) (f6 : Nat → Int32) (g4 : ClassId) (f7 : Nat → Int32) (g5 : ClassId) (f8 : Nat → Int32) (v9 : Int32) (v10 : Int32) (i_v2 : 0 ≤ v2.toInt ∧ v2.toInt ≤ 1) (sz : Nat) : Met l yX8_place q_X8_place_2 ({ frames := 2, cells := 0, slots := 0, locals := 48 }) (va_Pc [.ref h0, .int 6, .int v9, .int v10] (fun U => U.heap.size = sz ∧ va_P (dC, dI) vwCl (wd_1ad5b18c h0 h1 h2 h3 h4 h5 h6 v0 v1 v2 h1 g0 f3 h2 g1 f4 h3 g2 f5 h4 g3 f6 h5 g4 f7 h6 g5 f8) U.heap ∧ va_K (dC, dI) vwCl [(g0, .int), (g1, .int), (g2, .int), (g3, .int), (g4, .int), (g5, .int)] U ∧ va_D (fun _ => True) (wd_1ad5b18c h0 h1 h2 h3 h4 h5 h6 v0 v1 v2 h1 g0 f3 h2 g1 f4 h3 g2 f5 h4 g3 f6 h5 g4 f7 h6 g5 f8))) (va_Qi (fun (r : Int32) (_ : Unit) => 0 ≤ r.toInt ∧ r.toInt ≤ 1) (fun (_ : Unit) (t : State) => ∃ (o_h4 : Nat → Int32) (o_h5 : Nat → Int32) (o_h6 : Nat → Int32), va_P (dC, dI) vwCl (wd_1ad5b18c h0 h1 h2 h3 h4 h5 h6 v0 v1 v2 h1 g0 f3 h2 g1 f4 h3 g2 f5 h4 g3 o_h4 h5 g4 o_h5 h6 g5 o_h6) t.heap ∧ va_K (dC, dI) vwCl [] t ∧ va_D (va_A (wd_1ad5b18c h0 h1 h2 h3 h4 h5 h6 v0 v1 v2 h1 g0 f3 h2 g1 f4 h3 g2 f5 h4 g3 f6 h5 g4 f7 h6 g5 f8) sz) (wd_1ad5b18c h0 h1 h2 h3 h4 h5 h6 v0 v1 v2 h1 g0 f3 h2 g1 f4 h3 g2 f5 h4 g3 o_h4 h5 g4 o_h5 h6 g5 o_h6)) (va_A (wd_1ad5b18c h0 h1 h2 h3 h4 h5 h6 v0 v1 v2 h1 g0 f3 h2 g1 f4 h3 g2 f5 h4 g3 f6 h5 g4 f7 h6 g5 f8) sz)) 0 0 (va_A (wd_1ad5b18c h0 h1 h2 h3 h4 h5 h6 v0 v1 v2 h1 g0 f3 h2 g1 f4 h3 g2 f5 h4 g3 f6 h5 g4 f7 h6 g5 f8) sz) := by
  refine Met.ofW (cc := cX8_place) (maxL := 5) (ret := (some .boolean)) (by decide) rfl ?_
  intro p e s m args below meth c s₁ B hml hv
  obtain ⟨i_v2a, i_v2b⟩ := i_v2
  obtain ⟨rfl, hsz, hP, hK, hD0⟩ := hv
  have hx := B.exec
  have hb := B.bytes
  have hr := B.returns
  have hts := atoms_spec (ws := q_X8_place_2) B.pre
  have hown : s.vm.findClass RX8 = some m.cls := findClass_of_methodNamed B.named
  have hlocks := B.notSynchronized
  subst hsz
  have hD := hD0.self (sz := s.heap.size)
  generalize hAe : va_A (wd_1ad5b18c h0 h1 h2 h3 h4 h5 h6 v0 v1 v2 h1 g0 f3 h2 g1 f4 h3 g2 f5 h4 g3 f6 h5 g4 f7 h6 g5 f8) s.heap.size = A at hD ⊢
  have hA : ∀ q : Nat, s.heap.size ≤ q → A q := fun q h => by rw [← hAe]; exact Or.inr h
  have hS : va_S A s.heap s.heap [] := va_S.rf
  generalize hQ : (MQ below _ _ s 0 0 A) = Q
  have hl := lv_entry ([.ref h0, .int 6, .int v9, .int v10]) (n := 5) (Nat.le_of_ble_eq_true rfl)
  rw [lg_entry_eq]
  generalize (lg_sl ([.ref h0, .int 6, .int v9, .int v10]) ++ List.replicate (5 - (lg_sl ([.ref h0, .int 6, .int v9, .int v10])).length) Slot.unset).toArray = ls at hl ⊢
  have hl : lv_has ls 5 [(0, .ref h0), (1, .int 6), (2, .int v9), (3, .int v10)] := hl
  obtain ⟨H, hH⟩ : ∃ H : Heap, H = s.heap := ⟨_, rfl⟩
  obtain ⟨locs, hlocs⟩ : ∃ y : List Loc, y = [] := ⟨_, rfl⟩
  have hS : va_S A s.heap H locs := by rw [hH, hlocs]; exact va_S.rf
  have hP : va_P (dC, dI) vwCl (wd_1ad5b18c h0 h1 h2 h3 h4 h5 h6 v0 v1 v2 h1 g0 f3 h2 g1 f4 h3 g2 f5 h4 g3 f6 h5 g4 f7 h6 g5 f8) H := by rw [hH]; exact hP
  rw [← hH, ← hlocs]
  refine lv_iload_n hx hb dX8_place_0 rfl (lv_at hl 1 rfl) ?_
  refine lv_if_lt (tgt := 18) hx hb dX8_place_1 (by decide) (fun c => absurd c (by decide)) (fun _ => ?_)
  refine lv_iload_n hx hb dX8_place_4 rfl (lv_at hl 1 rfl) ?_
  refine lv_aload_n hx hb dX8_place_5 rfl (lv_at hl 0 rfl) ?_
  refine va_get (D := (dC, dI)) (ci := 8) (v := .int v0) (C := RX8) (T := TX8) (N := 9) hx hb hts (fun _ h => List.mem_cons_of_mem _ (List.mem_append_right _ h)) hown hK hP 0 rfl rfl 6 (by decide) (hts (.fieldLink RX8 30 "LeftArguments$Rows" "bags" "I") (List.mem_cons_of_mem _ (List.mem_append_left _ (List.mem_of_getElem? (i := 0) rfl)))) (fun _ h9 => h9) rfl dX8_place_6 ?_
  refine lv_icmp_ge (tgt := 18) hx hb dX8_place_9 (by decide) (fun c1 => ?_) (fun c1 => ?_)
  · skip
    have fc1 : v0.toInt ≤ 6 := Int32.le_iff_toInt_le.mp c1
    refine lv_iconst (v := 1) hx hb dX8_place_18 (by decide) ?_
    subst hQ
    have hP9 := hP.sub (ws' := (wd_1ad5b18c h0 h1 h2 h3 h4 h5 h6 v0 v1 v2 h1 g0 f3 h2 g1 f4 h3 g2 f5 h4 g3 f6 h5 g4 f7 h6 g5 f8)) [0, 1, 2, 3, 4, 5, 6] rfl
    have hD9 := hD.sub (ws' := (wd_1ad5b18c h0 h1 h2 h3 h4 h5 h6 v0 v1 v2 h1 g0 f3 h2 g1 f4 h3 g2 f5 h4 g3 f6 h5 g4 f7 h6 g5 f8)) [0, 1, 2, 3, 4, 5, 6] (by decide) rfl
    have hK9 := hK.sub (tys' := []) [] rfl
    exact W.zret (v := 1) hx hb hr rfl (fun t ht hW => ⟨⟨1, (), rfl, ⟨by first | omega | decide, by first | omega | decide⟩, f6, f7, f8, by rw [ht]; exact hP9, va_K.moved hW.alike hK9, hD9⟩, hS.F ht⟩) hS.2.2 dX8_place_19
  · skip
    have fc1 : ¬ (v0.toInt ≤ 6) := fun h9 => c1 (Int32.le_iff_toInt_le.mpr h9)
    refine lv_iload_n hx hb dX8_place_12 rfl (lv_at hl 1 rfl) ?_
    refine lv_bipush (v := 8) hx hb dX8_place_13 (by decide) ?_
    refine lv_icmp_lt (tgt := 20) hx hb dX8_place_15 (by decide) (fun _ => ?_) (fun c => absurd (by decide) c)
    refine lv_iconst (v := 0) hx hb dX8_place_20 (by decide) ?_
    refine lv_istore (lv' := [(4, .int 0), (0, .ref h0), (1, .int 6), (2, .int v9), (3, .int v10)]) hx hb dX8_place_21 hl (by decide) rfl (fun ls hl => ?_)
    have hL22 : ∀ (n9 : Nat), ∀ (x14 : Int32) (fn15 : Nat → Int32) (fn16 : Nat → Int32) (fn17 : Nat → Int32) (H : Heap) (locs : List Loc) (ls : Array Slot), 0 ≤ x14.toInt → x14.toInt ≤ 8 → (8 - x14.toInt).toNat < n9 → va_P (dC, dI) vwCl (wd_1ad5b18c h0 h1 h2 h3 h4 h5 h6 v0 v1 v2 h1 g0 f3 h2 g1 f4 h3 g2 f5 h4 g3 fn15 h5 g4 fn16 h6 g5 fn17) H → va_D A (wd_1ad5b18c h0 h1 h2 h3 h4 h5 h6 v0 v1 v2 h1 g0 f3 h2 g1 f4 h3 g2 f5 h4 g3 fn15 h5 g4 fn16 h6 g5 fn17) → va_S A s.heap H locs → lv_has ls 5 [(4, .int x14), (0, .ref h0), (1, .int 6), (2, .int v9), (3, .int v10)] → W p l e ({ frames := 2, cells := 0, slots := 0, locals := 48 }) s m ([.ref h0, .int 6, .int v9, .int v10] : List Value).toArray below meth c H locs 0 0 Q (F0 m 23 ls []) := by
      intro n9
      induction n9 with
      | zero => intro x14 fn15 fn16 fn17 H locs ls qa_x14 qb_x14 hm9 hP hD hS hl; exact absurd hm9 (Nat.not_lt_zero _)
      | succ n9 ih_hL22 =>
        intro x14 fn15 fn16 fn17 H locs ls qa_x14 qb_x14 hm9 hP hD hS hl
        refine lv_iload hx hb dX8_place_23 (lv_at hl 0 rfl) ?_
        refine lv_iload_n hx hb dX8_place_25 rfl (lv_at hl 3 rfl) ?_
        refine lv_icmp_gt (tgt := 157) hx hb dX8_place_26 (by decide) (fun c23 => ?_) (fun c23 => ?_)
        · skip
          have fc23 : v9.toInt < x14.toInt := Int32.lt_iff_toInt_lt.mp c23
          have r1c23 := Int32.toInt_lt x14
          have r2c23 := Int32.toInt_lt v9
          have r3c23 := Int32.le_toInt x14
          have r4c23 := Int32.le_toInt v9
          refine lv_iconst (v := 0) hx hb dX8_place_157 (by decide) ?_
          subst hQ
          have hP9 := hP.sub (ws' := (wd_1ad5b18c h0 h1 h2 h3 h4 h5 h6 v0 v1 v2 h1 g0 f3 h2 g1 f4 h3 g2 f5 h4 g3 fn15 h5 g4 fn16 h6 g5 fn17)) [0, 1, 2, 3, 4, 5, 6] rfl
          have hD9 := hD.sub (ws' := (wd_1ad5b18c h0 h1 h2 h3 h4 h5 h6 v0 v1 v2 h1 g0 f3 h2 g1 f4 h3 g2 f5 h4 g3 fn15 h5 g4 fn16 h6 g5 fn17)) [0, 1, 2, 3, 4, 5, 6] (by decide) rfl
          have hK9 := hK.sub (tys' := []) [] rfl
          exact W.zret (v := 0) hx hb hr rfl (fun t ht hW => ⟨⟨0, (), rfl, ⟨by first | omega | decide, by first | omega | decide⟩, fn15, fn16, fn17, by rw [ht]; exact hP9, va_K.moved hW.alike hK9, hD9⟩, hS.F ht⟩) hS.2.2 dX8_place_158
        · skip
          have fc23 : ¬ (v9.toInt < x14.toInt) := fun h9 => c23 (Int32.lt_iff_toInt_lt.mpr h9)
          have r1c23 := Int32.toInt_lt x14
          have r2c23 := Int32.toInt_lt v9
          have r3c23 := Int32.le_toInt x14
          have r4c23 := Int32.le_toInt v9
          refine lv_iload hx hb dX8_place_29 (lv_at hl 0 rfl) ?_
          refine lv_iload_n hx hb dX8_place_31 rfl (lv_at hl 4 rfl) ?_
          refine lv_icmp_ge (tgt := 157) hx hb dX8_place_32 (by decide) (fun c24 => ?_) (fun c24 => ?_)
          · skip
            have fc24 : v10.toInt ≤ x14.toInt := Int32.le_iff_toInt_le.mp c24
            have r1c24 := Int32.toInt_lt x14
            have r2c24 := Int32.toInt_lt v10
            have r3c24 := Int32.le_toInt x14
            have r4c24 := Int32.le_toInt v10
            refine lv_iconst (v := 0) hx hb dX8_place_157 (by decide) ?_
            subst hQ
            have hP9 := hP.sub (ws' := (wd_1ad5b18c h0 h1 h2 h3 h4 h5 h6 v0 v1 v2 h1 g0 f3 h2 g1 f4 h3 g2 f5 h4 g3 fn15 h5 g4 fn16 h6 g5 fn17)) [0, 1, 2, 3, 4, 5, 6] rfl
            have hD9 := hD.sub (ws' := (wd_1ad5b18c h0 h1 h2 h3 h4 h5 h6 v0 v1 v2 h1 g0 f3 h2 g1 f4 h3 g2 f5 h4 g3 fn15 h5 g4 fn16 h6 g5 fn17)) [0, 1, 2, 3, 4, 5, 6] (by decide) rfl
            have hK9 := hK.sub (tys' := []) [] rfl
            exact W.zret (v := 0) hx hb hr rfl (fun t ht hW => ⟨⟨0, (), rfl, ⟨by first | omega | decide, by first | omega | decide⟩, fn15, fn16, fn17, by rw [ht]; exact hP9, va_K.moved hW.alike hK9, hD9⟩, hS.F ht⟩) hS.2.2 dX8_place_158
          · skip
            have fc24 : ¬ (v10.toInt ≤ x14.toInt) := fun h9 => c24 (Int32.le_iff_toInt_le.mpr h9)
            have r1c24 := Int32.toInt_lt x14
            have r2c24 := Int32.toInt_lt v10
            have r3c24 := Int32.le_toInt x14
            have r4c24 := Int32.le_toInt v10
            refine lv_iload hx hb dX8_place_35 (lv_at hl 0 rfl) ?_
            refine lv_bipush (v := 8) hx hb dX8_place_37 (by decide) ?_
            refine lv_icmp_ge (tgt := 157) hx hb dX8_place_39 (by decide) (fun c25 => ?_) (fun c25 => ?_)
            · skip
              have fc25 : 8 ≤ x14.toInt := Int32.le_iff_toInt_le.mp c25
              refine lv_iconst (v := 0) hx hb dX8_place_157 (by decide) ?_
              subst hQ
              have hP9 := hP.sub (ws' := (wd_1ad5b18c h0 h1 h2 h3 h4 h5 h6 v0 v1 v2 h1 g0 f3 h2 g1 f4 h3 g2 f5 h4 g3 fn15 h5 g4 fn16 h6 g5 fn17)) [0, 1, 2, 3, 4, 5, 6] rfl
              have hD9 := hD.sub (ws' := (wd_1ad5b18c h0 h1 h2 h3 h4 h5 h6 v0 v1 v2 h1 g0 f3 h2 g1 f4 h3 g2 f5 h4 g3 fn15 h5 g4 fn16 h6 g5 fn17)) [0, 1, 2, 3, 4, 5, 6] (by decide) rfl
              have hK9 := hK.sub (tys' := []) [] rfl
              exact W.zret (v := 0) hx hb hr rfl (fun t ht hW => ⟨⟨0, (), rfl, ⟨by first | omega | decide, by first | omega | decide⟩, fn15, fn16, fn17, by rw [ht]; exact hP9, va_K.moved hW.alike hK9, hD9⟩, hS.F ht⟩) hS.2.2 dX8_place_158
            · skip
              have fc25 : ¬ (8 ≤ x14.toInt) := fun h9 => c25 (Int32.le_iff_toInt_le.mpr h9)
              refine lv_aload_n hx hb dX8_place_42 rfl (lv_at hl 1 rfl) ?_
              refine lv_iload_n hx hb dX8_place_43 rfl (lv_at hl 2 rfl) ?_
              refine lv_iload hx hb dX8_place_44 (lv_at hl 0 rfl) ?_
              have hPc := hP.sub (ws' := (wd_62728821 h0 h1 h2 h3 h4 h5 h6 v0 v1 v2 h1 g0 f3 h2 g1 f4 h5 g4 fn16 h6 g5 fn17)) [0, 1, 2, 5, 6] rfl
              have hDc := hD.sub (ws' := (wd_62728821 h0 h1 h2 h3 h4 h5 h6 v0 v1 v2 h1 g0 f3 h2 g1 f4 h5 g4 fn16 h6 g5 fn17)) [0, 1, 2, 5, 6] (by decide) rfl
              have hKc := hK.sub (tys' := [(g0, .int), (g1, .int), (g4, .int), (g5, .int)]) [0, 1, 4, 5] rfl
              have hFc := va_free (wc := (wd_62728821 h0 h1 h2 h3 h4 h5 h6 v0 v1 v2 h1 g0 f3 h2 g1 f4 h5 g4 fn16 h6 g5 fn17)) hD hS hA [0, 1, 2, 5, 6] rfl
              refine va_calli (va_runV (As := [.int 6, .int x14]) (rest := []) ⟨hx, hb, hml, hown, hts⟩ (k_X8_standsWell l dC dI h0 h1 h2 h5 h6 h3 h4 v0 v1 v2 g0 f3 g1 f4 g4 fn16 g5 fn17 6 x14 ⟨i_v2a, i_v2b⟩ H.size) (cwV 2 hts g_X8_place_2_0 rfl rfl rfl (by decide +kernel) ⟨Nat.le_of_ble_eq_true rfl, Nat.le_of_ble_eq_true rfl⟩) (pv_PV8 hPc hKc hDc (q0 := 0) rfl) rfl rfl hl.1 rfl (lv_room (Nat.le_of_ble_eq_true rfl)) dX8_place_46 ⟨Nat.le_of_ble_eq_true rfl, Nat.le_of_ble_eq_true rfl⟩) hS (fun q _ h => hFc q h) hFc (fun ra26 u t H1 locs ht hvm hwra26 hB hz1 hk1 hS => ?_)
              obtain ⟨hP1, hK1, hD1⟩ := hB
              rw [ht] at hP1
              obtain ⟨hP2, hD2⟩ := va_join (wr := (wd_c3b6304c h3 g2 f5 h4 g3 fn15)) (w1 := (wd_62728821 h0 h1 h2 h3 h4 h5 h6 v0 v1 v2 h1 g0 f3 h2 g1 f4 h5 g4 fn16 h6 g5 fn17)) hP hD [0, 1, 2, 5, 6] [3, 4] rfl rfl (by decide) (by decide) hk1 hFc hP1 hD1
              clear hP hD hPc hDc hKc hFc hP1 hK1 hD1 hk1 hz1
              generalize H1 = H at hP2 hS ⊢
              have hP := hP2.sub (ws' := (wd_1ad5b18c h0 h1 h2 h3 h4 h5 h6 v0 v1 v2 h1 g0 f3 h2 g1 f4 h3 g2 f5 h4 g3 fn15 h5 g4 fn16 h6 g5 fn17)) [2, 3, 4, 0, 1, 5, 6] rfl
              have hD := hD2.sub (ws' := (wd_1ad5b18c h0 h1 h2 h3 h4 h5 h6 v0 v1 v2 h1 g0 f3 h2 g1 f4 h3 g2 f5 h4 g3 fn15 h5 g4 fn16 h6 g5 fn17)) [2, 3, 4, 0, 1, 5, 6] (by decide) rfl
              clear hP2 hD2
              obtain ⟨wa_ra26, wb_ra26⟩ := hwra26
              have wa_ra26 : 0 ≤ ra26.toInt := wa_ra26
              have wb_ra26 : ra26.toInt ≤ 1 := wb_ra26
              refine lv_if_eq (tgt := 151) hx hb dX8_place_49 (by decide) (fun c27 => ?_) (fun c27 => ?_)
              · skip
                have fc27 : ra26.toInt = 0 := congrArg Int32.toInt c27
                obtain ⟨t28, et28⟩ : ∃ y : Int32, y = x14 + 1 := ⟨_, rfl⟩
                have gt28 : t28.toInt = x14.toInt + (1) := pv_add (a := x14.toInt) (b := (1)) et28 rfl (by decide) (by omega) (by omega)
                refine lv_iinc (v := t28) (lv' := [(4, .int t28), (0, .ref h0), (1, .int 6), (2, .int v9), (3, .int v10)]) hx hb dX8_place_151 hl (k := 0) rfl (by rw [et28]; rfl) (by decide) rfl (fun ls hl => ?_)
                refine lv_goto (tgt := 23) hx hb dX8_place_154 (by decide) ?_
                exact ih_hL22 t28 fn15 fn16 fn17 H locs ls (by first | omega | decide) (by first | omega | decide) (by first | omega | (simp only [Int.toNat] at *; omega)) hP hD hS (lv_sub hl [0, 1, 2, 3, 4] rfl)
              · skip
                have fc27 : ¬ (ra26.toInt = 0) := fun h9 => c27 (Int32.toInt_inj.mp h9)
                refine lv_aload_n hx hb dX8_place_52 rfl (lv_at hl 1 rfl) ?_
                refine va_get (D := (dC, dI)) (ci := 8) (v := .ref h4) (C := RX8) (T := TX8) (N := 9) hx hb hts (fun _ h => List.mem_cons_of_mem _ (List.mem_append_right _ h)) hown hK hP 0 rfl rfl 3 (by decide) (hts (.fieldLink RX8 21 "LeftArguments$Rows" "chosen" "[I") (List.mem_cons_of_mem _ (List.mem_append_left _ (List.mem_of_getElem? (i := 12) rfl)))) (fun _ h9 => h9) rfl dX8_place_53 ?_
                refine lv_iload_n hx hb dX8_place_56 rfl (lv_at hl 2 rfl) ?_
                refine lv_iload hx hb dX8_place_57 (lv_at hl 0 rfl) ?_
                refine va_iast hx hb hK hP hD hS 4 3 rfl rfl (pv_c (x := 6) (n := 8) (by decide)) dX8_place_59 (fun H locs hP hD hS => ?_)
                obtain ⟨fn29, efn29⟩ : ∃ g : Nat → Int32, g = upd fn15 (Int32.toNatClampNeg 6) x14 := ⟨_, rfl⟩
                rw [← efn29] at hP hD
                have hP : va_P (dC, dI) vwCl (wd_1ad5b18c h0 h1 h2 h3 h4 h5 h6 v0 v1 v2 h1 g0 f3 h2 g1 f4 h3 g2 f5 h4 g3 fn29 h5 g4 fn16 h6 g5 fn17) H := hP
                have hD : va_D A (wd_1ad5b18c h0 h1 h2 h3 h4 h5 h6 v0 v1 v2 h1 g0 f3 h2 g1 f4 h3 g2 f5 h4 g3 fn29 h5 g4 fn16 h6 g5 fn17) := hD
                refine lv_aload_n hx hb dX8_place_60 rfl (lv_at hl 1 rfl) ?_
                refine va_get (D := (dC, dI)) (ci := 8) (v := .ref h5) (C := RX8) (T := TX8) (N := 9) hx hb hts (fun _ h => List.mem_cons_of_mem _ (List.mem_append_right _ h)) hown hK hP 0 rfl rfl 4 (by decide) (hts (.fieldLink RX8 24 "LeftArguments$Rows" "loads" "[I") (List.mem_cons_of_mem _ (List.mem_append_left _ (List.mem_of_getElem? (i := 5) rfl)))) (fun _ h9 => h9) rfl dX8_place_61 ?_
                refine lv_iload hx hb dX8_place_64 (lv_at hl 0 rfl) ?_
                refine lv_dup2_11 hx hb dX8_place_66 rfl rfl ?_
                refine va_iald hx hb hK hP 5 4 rfl rfl (vp_in_iff.mpr ⟨by omega, by omega⟩) dX8_place_67 ?_
                refine lv_topi (fun t30 et30 => ?_)
                refine lv_aload_n hx hb dX8_place_68 rfl (lv_at hl 1 rfl) ?_
                refine va_get (D := (dC, dI)) (ci := 8) (v := .ref h1) (C := RX8) (T := TX8) (N := 9) hx hb hts (fun _ h => List.mem_cons_of_mem _ (List.mem_append_right _ h)) hown hK hP 0 rfl rfl 0 (by decide) (hts (.fieldLink RX8 9 "LeftArguments$Rows" "sizes" "[I") (List.mem_cons_of_mem _ (List.mem_append_left _ (List.mem_of_getElem? (i := 6) rfl)))) (fun _ h9 => h9) rfl dX8_place_69 ?_
                refine lv_iload_n hx hb dX8_place_72 rfl (lv_at hl 2 rfl) ?_
                refine va_iald hx hb hK hP 1 0 rfl rfl (pv_c (x := 6) (n := 8) (by decide)) dX8_place_73 ?_
                refine lv_topi (fun t31 et31 => ?_)
                refine lv_iadd hx hb dX8_place_74 ?_
                refine lv_topi (fun t32 et32 => ?_)
                refine va_iast hx hb hK hP hD hS 5 4 rfl rfl (vp_in_iff.mpr ⟨by omega, by omega⟩) dX8_place_75 (fun H locs hP hD hS => ?_)
                obtain ⟨fn33, efn33⟩ : ∃ g : Nat → Int32, g = upd fn16 (Int32.toNatClampNeg x14) t32 := ⟨_, rfl⟩
                rw [← efn33] at hP hD
                have hP : va_P (dC, dI) vwCl (wd_1ad5b18c h0 h1 h2 h3 h4 h5 h6 v0 v1 v2 h1 g0 f3 h2 g1 f4 h3 g2 f5 h4 g3 fn29 h5 g4 fn33 h6 g5 fn17) H := hP
                have hD : va_D A (wd_1ad5b18c h0 h1 h2 h3 h4 h5 h6 v0 v1 v2 h1 g0 f3 h2 g1 f4 h3 g2 f5 h4 g3 fn29 h5 g4 fn33 h6 g5 fn17) := hD
                refine lv_aload_n hx hb dX8_place_76 rfl (lv_at hl 1 rfl) ?_
                refine va_get (D := (dC, dI)) (ci := 8) (v := .ref h6) (C := RX8) (T := TX8) (N := 9) hx hb hts (fun _ h => List.mem_cons_of_mem _ (List.mem_append_right _ h)) hown hK hP 0 rfl rfl 5 (by decide) (hts (.fieldLink RX8 27 "LeftArguments$Rows" "standing" "[I") (List.mem_cons_of_mem _ (List.mem_append_left _ (List.mem_of_getElem? (i := 3) rfl)))) (fun _ h9 => h9) rfl dX8_place_77 ?_
                refine lv_iload hx hb dX8_place_80 (lv_at hl 0 rfl) ?_
                refine lv_dup2_11 hx hb dX8_place_82 rfl rfl ?_
                refine va_iald hx hb hK hP 6 5 rfl rfl (vp_in_iff.mpr ⟨by omega, by omega⟩) dX8_place_83 ?_
                refine lv_topi (fun t34 et34 => ?_)
                refine lv_iconst (v := 1) hx hb dX8_place_84 (by decide) ?_
                refine lv_aload_n hx hb dX8_place_85 rfl (lv_at hl 1 rfl) ?_
                refine va_get (D := (dC, dI)) (ci := 8) (v := .ref h3) (C := RX8) (T := TX8) (N := 9) hx hb hts (fun _ h => List.mem_cons_of_mem _ (List.mem_append_right _ h)) hown hK hP 0 rfl rfl 2 (by decide) (hts (.fieldLink RX8 18 "LeftArguments$Rows" "places" "[I") (List.mem_cons_of_mem _ (List.mem_append_left _ (List.mem_of_getElem? (i := 13) rfl)))) (fun _ h9 => h9) rfl dX8_place_86 ?_
                refine lv_iload_n hx hb dX8_place_89 rfl (lv_at hl 2 rfl) ?_
                refine va_iald hx hb hK hP 3 2 rfl rfl (pv_c (x := 6) (n := 8) (by decide)) dX8_place_90 ?_
                refine lv_topi (fun t35 et35 => ?_)
                refine lv_ishl hx hb dX8_place_91 ?_
                refine lv_topi (fun t36 et36 => ?_)
                refine lv_ior hx hb dX8_place_92 ?_
                refine lv_topi (fun t37 et37 => ?_)
                refine va_iast hx hb hK hP hD hS 6 5 rfl rfl (vp_in_iff.mpr ⟨by omega, by omega⟩) dX8_place_93 (fun H locs hP hD hS => ?_)
                obtain ⟨fn38, efn38⟩ : ∃ g : Nat → Int32, g = upd fn17 (Int32.toNatClampNeg x14) t37 := ⟨_, rfl⟩
                rw [← efn38] at hP hD
                have hP : va_P (dC, dI) vwCl (wd_1ad5b18c h0 h1 h2 h3 h4 h5 h6 v0 v1 v2 h1 g0 f3 h2 g1 f4 h3 g2 f5 h4 g3 fn29 h5 g4 fn33 h6 g5 fn38) H := hP
                have hD : va_D A (wd_1ad5b18c h0 h1 h2 h3 h4 h5 h6 v0 v1 v2 h1 g0 f3 h2 g1 f4 h3 g2 f5 h4 g3 fn29 h5 g4 fn33 h6 g5 fn38) := hD
                refine lv_aload_n hx hb dX8_place_94 rfl (lv_at hl 1 rfl) ?_
                refine lv_iload_n hx hb dX8_place_95 rfl (lv_at hl 2 rfl) ?_
                refine lv_iconst (v := 1) hx hb dX8_place_96 (by decide) ?_
                refine lv_iadd hx hb dX8_place_97 ?_
                refine lv_topi (fun tv39 etv39 => ?_)
                obtain rfl : tv39 = (7 : Int32) := etv39.trans (by first | rfl | decide)
                refine lv_iload_n hx hb dX8_place_98 rfl (lv_at hl 3 rfl) ?_
                refine lv_iload hx hb dX8_place_99 (lv_at hl 0 rfl) ?_
                refine lv_iconst (v := 1) hx hb dX8_place_101 (by decide) ?_
                refine lv_iadd hx hb dX8_place_102 ?_
                refine lv_topi (fun t40 et40 => ?_)
                have gt40 : t40.toInt = x14.toInt + 1 := pv_add (a := x14.toInt) (b := 1) et40 rfl (by decide) (by omega) (by omega)
                refine va_mmax hx hb (by rw [hml]; exact hl.1.symm) hown (hts (.methodLink RX8 72 Lib.Math.max.name) (List.mem_cons_of_mem _ (List.mem_append_left _ (List.mem_of_getElem? (i := 14) rfl)))) (hts (.static Lib.Math.max.name) (List.mem_cons_of_mem _ (List.mem_append_left _ (List.mem_of_getElem? (i := 15) rfl)))) (hts (.initialized "java/lang/Math") (List.mem_cons_of_mem _ (List.mem_append_left _ (List.mem_of_getElem? (i := 16) rfl)))) (hts (.code Lib.Math.max.name Lib.Math.max.code 2 (some .int)) (List.mem_cons_of_mem _ (List.mem_append_left _ (List.mem_of_getElem? (i := 17) rfl)))) (Nat.le_of_ble_eq_true rfl) (Nat.le_of_ble_eq_true rfl) (Nat.le_of_ble_eq_true rfl) (Nat.le_of_ble_eq_true rfl) dX8_place_103 ?_
                refine lv_topi (fun t41 et41 => ?_)
                obtain ⟨gat41, gbt41, gct41⟩ := pv_max (a := v9.toInt) (b := t40.toInt) et41 rfl rfl
                refine lv_iload_n hx hb dX8_place_106 rfl (lv_at hl 4 rfl) ?_
                have hPc := hP.sub (ws' := (wd_1ad5b18c h0 h1 h2 h3 h4 h5 h6 v0 v1 v2 h1 g0 f3 h2 g1 f4 h3 g2 f5 h4 g3 fn29 h5 g4 fn33 h6 g5 fn38)) [0, 1, 2, 3, 4, 5, 6] rfl
                have hDc := hD.sub (ws' := (wd_1ad5b18c h0 h1 h2 h3 h4 h5 h6 v0 v1 v2 h1 g0 f3 h2 g1 f4 h3 g2 f5 h4 g3 fn29 h5 g4 fn33 h6 g5 fn38)) [0, 1, 2, 3, 4, 5, 6] (by decide) rfl
                have hKc := hK.sub (tys' := [(g0, .int), (g1, .int), (g2, .int), (g3, .int), (g4, .int), (g5, .int)]) [0, 1, 2, 3, 4, 5] rfl
                have hFc := va_free (wc := (wd_1ad5b18c h0 h1 h2 h3 h4 h5 h6 v0 v1 v2 h1 g0 f3 h2 g1 f4 h3 g2 f5 h4 g3 fn29 h5 g4 fn33 h6 g5 fn38)) hD hS hA [0, 1, 2, 3, 4, 5, 6] rfl
                refine va_calli (va_runV (As := [.int 7, .int t41, .int v10]) (rest := []) ⟨hx, hb, hml, hown, hts⟩ (k_X8_place_1 l dC dI h0 h1 h2 h3 h4 h5 h6 v0 v1 v2 g0 f3 g1 f4 g2 f5 g3 fn29 g4 fn33 g5 fn38 t41 v10 ⟨i_v2a, i_v2b⟩ H.size) (cwV 3 hts g_X8_place_2_1 rfl rfl rfl (by decide +kernel) ⟨Nat.le_of_ble_eq_true rfl, Nat.le_of_ble_eq_true rfl⟩) (pv_PV8 hPc hKc hDc (q0 := 0) rfl) rfl rfl hl.1 rfl (lv_room (Nat.le_of_ble_eq_true rfl)) dX8_place_107 ⟨Nat.le_of_ble_eq_true rfl, Nat.le_of_ble_eq_true rfl⟩) hS (fun q _ h => hFc q h) hFc (fun ra42 u t H1 locs ht hvm hwra42 hB hz1 hk1 hS => ?_)
                obtain ⟨fn43, fn44, fn45, hP1, hK1, hD1⟩ := hB
                rw [ht] at hP1
                obtain ⟨hP2, hD2⟩ := va_join (wr := []) (w1 := (wd_1ad5b18c h0 h1 h2 h3 h4 h5 h6 v0 v1 v2 h1 g0 f3 h2 g1 f4 h3 g2 f5 h4 g3 fn43 h5 g4 fn44 h6 g5 fn45)) hP hD [0, 1, 2, 3, 4, 5, 6] [] rfl rfl (by decide) (by decide) hk1 hFc hP1 hD1
                clear hP hD hPc hDc hKc hFc hP1 hK1 hD1 hk1 hz1
                generalize H1 = H at hP2 hS ⊢
                have hP : va_P (dC, dI) vwCl (wd_1ad5b18c h0 h1 h2 h3 h4 h5 h6 v0 v1 v2 h1 g0 f3 h2 g1 f4 h3 g2 f5 h4 g3 fn43 h5 g4 fn44 h6 g5 fn45) H := hP2
                have hD : va_D A (wd_1ad5b18c h0 h1 h2 h3 h4 h5 h6 v0 v1 v2 h1 g0 f3 h2 g1 f4 h3 g2 f5 h4 g3 fn43 h5 g4 fn44 h6 g5 fn45) := hD2
                clear hP2 hD2
                obtain ⟨wa_ra42, wb_ra42⟩ := hwra42
                have wa_ra42 : 0 ≤ ra42.toInt := wa_ra42
                have wb_ra42 : ra42.toInt ≤ 1 := wb_ra42
                refine lv_if_eq (tgt := 115) hx hb dX8_place_110 (by decide) (fun c46 => ?_) (fun c46 => ?_)
                · skip
                  have fc46 : ra42.toInt = 0 := congrArg Int32.toInt c46
                  refine lv_aload_n hx hb dX8_place_115 rfl (lv_at hl 1 rfl) ?_
                  refine va_get (D := (dC, dI)) (ci := 8) (v := .ref h5) (C := RX8) (T := TX8) (N := 9) hx hb hts (fun _ h => List.mem_cons_of_mem _ (List.mem_append_right _ h)) hown hK hP 0 rfl rfl 4 (by decide) (hts (.fieldLink RX8 24 "LeftArguments$Rows" "loads" "[I") (List.mem_cons_of_mem _ (List.mem_append_left _ (List.mem_of_getElem? (i := 5) rfl)))) (fun _ h9 => h9) rfl dX8_place_116 ?_
                  refine lv_iload hx hb dX8_place_119 (lv_at hl 0 rfl) ?_
                  refine lv_dup2_11 hx hb dX8_place_121 rfl rfl ?_
                  refine va_iald hx hb hK hP 5 4 rfl rfl (vp_in_iff.mpr ⟨by omega, by omega⟩) dX8_place_122 ?_
                  refine lv_topi (fun t47 et47 => ?_)
                  refine lv_aload_n hx hb dX8_place_123 rfl (lv_at hl 1 rfl) ?_
                  refine va_get (D := (dC, dI)) (ci := 8) (v := .ref h1) (C := RX8) (T := TX8) (N := 9) hx hb hts (fun _ h => List.mem_cons_of_mem _ (List.mem_append_right _ h)) hown hK hP 0 rfl rfl 0 (by decide) (hts (.fieldLink RX8 9 "LeftArguments$Rows" "sizes" "[I") (List.mem_cons_of_mem _ (List.mem_append_left _ (List.mem_of_getElem? (i := 6) rfl)))) (fun _ h9 => h9) rfl dX8_place_124 ?_
                  refine lv_iload_n hx hb dX8_place_127 rfl (lv_at hl 2 rfl) ?_
                  refine va_iald hx hb hK hP 1 0 rfl rfl (pv_c (x := 6) (n := 8) (by decide)) dX8_place_128 ?_
                  refine lv_topi (fun t48 et48 => ?_)
                  refine lv_isub hx hb dX8_place_129 ?_
                  refine lv_topi (fun t49 et49 => ?_)
                  refine va_iast hx hb hK hP hD hS 5 4 rfl rfl (vp_in_iff.mpr ⟨by omega, by omega⟩) dX8_place_130 (fun H locs hP hD hS => ?_)
                  obtain ⟨fn50, efn50⟩ : ∃ g : Nat → Int32, g = upd fn44 (Int32.toNatClampNeg x14) t49 := ⟨_, rfl⟩
                  rw [← efn50] at hP hD
                  have hP : va_P (dC, dI) vwCl (wd_1ad5b18c h0 h1 h2 h3 h4 h5 h6 v0 v1 v2 h1 g0 f3 h2 g1 f4 h3 g2 f5 h4 g3 fn43 h5 g4 fn50 h6 g5 fn45) H := hP
                  have hD : va_D A (wd_1ad5b18c h0 h1 h2 h3 h4 h5 h6 v0 v1 v2 h1 g0 f3 h2 g1 f4 h3 g2 f5 h4 g3 fn43 h5 g4 fn50 h6 g5 fn45) := hD
                  refine lv_aload_n hx hb dX8_place_131 rfl (lv_at hl 1 rfl) ?_
                  refine va_get (D := (dC, dI)) (ci := 8) (v := .ref h6) (C := RX8) (T := TX8) (N := 9) hx hb hts (fun _ h => List.mem_cons_of_mem _ (List.mem_append_right _ h)) hown hK hP 0 rfl rfl 5 (by decide) (hts (.fieldLink RX8 27 "LeftArguments$Rows" "standing" "[I") (List.mem_cons_of_mem _ (List.mem_append_left _ (List.mem_of_getElem? (i := 3) rfl)))) (fun _ h9 => h9) rfl dX8_place_132 ?_
                  refine lv_iload hx hb dX8_place_135 (lv_at hl 0 rfl) ?_
                  refine lv_dup2_11 hx hb dX8_place_137 rfl rfl ?_
                  refine va_iald hx hb hK hP 6 5 rfl rfl (vp_in_iff.mpr ⟨by omega, by omega⟩) dX8_place_138 ?_
                  refine lv_topi (fun t51 et51 => ?_)
                  refine lv_iconst (v := 1) hx hb dX8_place_139 (by decide) ?_
                  refine lv_aload_n hx hb dX8_place_140 rfl (lv_at hl 1 rfl) ?_
                  refine va_get (D := (dC, dI)) (ci := 8) (v := .ref h3) (C := RX8) (T := TX8) (N := 9) hx hb hts (fun _ h => List.mem_cons_of_mem _ (List.mem_append_right _ h)) hown hK hP 0 rfl rfl 2 (by decide) (hts (.fieldLink RX8 18 "LeftArguments$Rows" "places" "[I") (List.mem_cons_of_mem _ (List.mem_append_left _ (List.mem_of_getElem? (i := 13) rfl)))) (fun _ h9 => h9) rfl dX8_place_141 ?_
                  refine lv_iload_n hx hb dX8_place_144 rfl (lv_at hl 2 rfl) ?_
                  refine va_iald hx hb hK hP 3 2 rfl rfl (pv_c (x := 6) (n := 8) (by decide)) dX8_place_145 ?_
                  refine lv_topi (fun t52 et52 => ?_)
                  refine lv_ishl hx hb dX8_place_146 ?_
                  refine lv_topi (fun t53 et53 => ?_)
                  refine lv_iconst (v := (-1)) hx hb dX8_place_147 (by decide) ?_
                  refine lv_ixor hx hb dX8_place_148 ?_
                  refine lv_topi (fun t54 et54 => ?_)
                  refine lv_iand hx hb dX8_place_149 ?_
                  refine lv_topi (fun t55 et55 => ?_)
                  refine va_iast hx hb hK hP hD hS 6 5 rfl rfl (vp_in_iff.mpr ⟨by omega, by omega⟩) dX8_place_150 (fun H locs hP hD hS => ?_)
                  obtain ⟨fn56, efn56⟩ : ∃ g : Nat → Int32, g = upd fn45 (Int32.toNatClampNeg x14) t55 := ⟨_, rfl⟩
                  rw [← efn56] at hP hD
                  have hP : va_P (dC, dI) vwCl (wd_1ad5b18c h0 h1 h2 h3 h4 h5 h6 v0 v1 v2 h1 g0 f3 h2 g1 f4 h3 g2 f5 h4 g3 fn43 h5 g4 fn50 h6 g5 fn56) H := hP
                  have hD : va_D A (wd_1ad5b18c h0 h1 h2 h3 h4 h5 h6 v0 v1 v2 h1 g0 f3 h2 g1 f4 h3 g2 f5 h4 g3 fn43 h5 g4 fn50 h6 g5 fn56) := hD
                  obtain ⟨t57, et57⟩ : ∃ y : Int32, y = x14 + 1 := ⟨_, rfl⟩
                  have gt57 : t57.toInt = x14.toInt + (1) := pv_add (a := x14.toInt) (b := (1)) et57 rfl (by decide) (by omega) (by omega)
                  refine lv_iinc (v := t57) (lv' := [(4, .int t57), (0, .ref h0), (1, .int 6), (2, .int v9), (3, .int v10)]) hx hb dX8_place_151 hl (k := 0) rfl (by rw [et57]; rfl) (by decide) rfl (fun ls hl => ?_)
                  refine lv_goto (tgt := 23) hx hb dX8_place_154 (by decide) ?_
                  exact ih_hL22 t57 fn43 fn50 fn56 H locs ls (by first | omega | decide) (by first | omega | decide) (by first | omega | (simp only [Int.toNat] at *; omega)) hP hD hS (lv_sub hl [0, 1, 2, 3, 4] rfl)
                · skip
                  have fc46 : ¬ (ra42.toInt = 0) := fun h9 => c46 (Int32.toInt_inj.mp h9)
                  refine lv_iconst (v := 1) hx hb dX8_place_113 (by decide) ?_
                  subst hQ
                  have hP9 := hP.sub (ws' := (wd_1ad5b18c h0 h1 h2 h3 h4 h5 h6 v0 v1 v2 h1 g0 f3 h2 g1 f4 h3 g2 f5 h4 g3 fn43 h5 g4 fn44 h6 g5 fn45)) [0, 1, 2, 3, 4, 5, 6] rfl
                  have hD9 := hD.sub (ws' := (wd_1ad5b18c h0 h1 h2 h3 h4 h5 h6 v0 v1 v2 h1 g0 f3 h2 g1 f4 h3 g2 f5 h4 g3 fn43 h5 g4 fn44 h6 g5 fn45)) [0, 1, 2, 3, 4, 5, 6] (by decide) rfl
                  have hK9 := hK.sub (tys' := []) [] rfl
                  exact W.zret (v := 1) hx hb hr rfl (fun t ht hW => ⟨⟨1, (), rfl, ⟨by first | omega | decide, by first | omega | decide⟩, fn43, fn44, fn45, by rw [ht]; exact hP9, va_K.moved hW.alike hK9, hD9⟩, hS.F ht⟩) hS.2.2 dX8_place_114
    exact hL22 _ 0 f6 f7 f8 H locs ls (by decide) (by decide) (Nat.lt_succ_self _) hP hD hS (lv_sub hl [0, 1, 2, 3, 4] rfl)
def q_X8_place_3 : List Cond := .code yX8_place cX8_place 5 (some .boolean) :: (([.fieldLink RX8 30 "LeftArguments$Rows" "bags" "I", .code yX8_standsWell cX8_standsWell 3 (some .boolean), .fieldLink RX8 37 "LeftArguments$Rows" "byRoom" "Z", .fieldLink RX8 27 "LeftArguments$Rows" "standing" "[I", .fieldLink RX8 15 "LeftArguments$Rows" "circles" "[I", .fieldLink RX8 24 "LeftArguments$Rows" "loads" "[I", .fieldLink RX8 9 "LeftArguments$Rows" "sizes" "[I", .fieldLink RX8 34 "LeftArguments$Rows" "wide" "I", .initialized RX8, .instanceMethod yX8_standsWell, .selects RX8 yX8_standsWell yX8_standsWell, .methodLink RX8 68 yX8_standsWell, .fieldLink RX8 21 "LeftArguments$Rows" "chosen" "[I", .fieldLink RX8 18 "LeftArguments$Rows" "places" "[I", .methodLink RX8 72 Lib.Math.max.name, .static Lib.Math.max.name, .initialized "java/lang/Math", .code Lib.Math.max.name Lib.Math.max.code 2 (some .int), .code yX8_place cX8_place 5 (some .boolean), .instanceMethod yX8_place, .selects RX8 yX8_place yX8_place, .methodLink RX8 64 yX8_place] : List Cond) ++ wsX80)
set_option maxRecDepth 20000 in
theorem g_X8_place_3_0 : GoodIn q_X8_place_3 (wsV RX8 68 RX8 yX8_standsWell q_X8_standsWell) := goodIn_app (goodIn_r _ [12, 10, 11, 9] rfl (by decide +kernel)) (goodIn_ca (goodIn_r (.code yX8_standsWell cX8_standsWell 3 (some .boolean) :: [.fieldLink RX8 37 "LeftArguments$Rows" "byRoom" "Z", .fieldLink RX8 27 "LeftArguments$Rows" "standing" "[I", .fieldLink RX8 15 "LeftArguments$Rows" "circles" "[I", .fieldLink RX8 24 "LeftArguments$Rows" "loads" "[I", .fieldLink RX8 9 "LeftArguments$Rows" "sizes" "[I", .fieldLink RX8 34 "LeftArguments$Rows" "wide" "I"]) [2, 3, 4, 5, 6, 7, 8] rfl (by decide +kernel)) (goodIn_sub (fun _ h => List.mem_cons_of_mem _ (List.mem_append_right _ h)) gwX8))
set_option maxRecDepth 20000 in
theorem g_X8_place_3_1 : GoodIn q_X8_place_3 (wsV RX8 64 RX8 yX8_place q_X8_place_2) := goodIn_app (goodIn_r _ [22, 20, 21, 9] rfl (by decide +kernel)) (goodIn_ca (goodIn_r (.code yX8_place cX8_place 5 (some .boolean) :: [.fieldLink RX8 30 "LeftArguments$Rows" "bags" "I", .code yX8_standsWell cX8_standsWell 3 (some .boolean), .fieldLink RX8 37 "LeftArguments$Rows" "byRoom" "Z", .fieldLink RX8 27 "LeftArguments$Rows" "standing" "[I", .fieldLink RX8 15 "LeftArguments$Rows" "circles" "[I", .fieldLink RX8 24 "LeftArguments$Rows" "loads" "[I", .fieldLink RX8 9 "LeftArguments$Rows" "sizes" "[I", .fieldLink RX8 34 "LeftArguments$Rows" "wide" "I", .initialized RX8, .instanceMethod yX8_standsWell, .selects RX8 yX8_standsWell yX8_standsWell, .methodLink RX8 68 yX8_standsWell, .fieldLink RX8 21 "LeftArguments$Rows" "chosen" "[I", .fieldLink RX8 18 "LeftArguments$Rows" "places" "[I", .methodLink RX8 72 Lib.Math.max.name, .static Lib.Math.max.name, .initialized "java/lang/Math", .code Lib.Math.max.name Lib.Math.max.code 2 (some .int), .code yX8_place cX8_place 5 (some .boolean), .instanceMethod yX8_place, .selects RX8 yX8_place yX8_place, .methodLink RX8 64 yX8_place]) [19, 1, 2, 3, 4, 5, 6, 7, 8, 9, 10, 11, 12, 13, 14, 15, 16, 17, 18, 19, 20, 21, 22] rfl (by decide +kernel)) (goodIn_sub (fun _ h => List.mem_cons_of_mem _ (List.mem_append_right _ h)) gwX8))
set_option maxHeartbeats 4000000 in
set_option maxRecDepth 100000 in
theorem k_X8_place_3 (l : Launch) (dC : Nat → ClassId) (dI : Nat → Nat → Nat) (h0 : Nat) (h1 : Nat) (h2 : Nat) (h3 : Nat) (h4 : Nat) (h5 : Nat) (h6 : Nat) (v0 : Int32) (v1 : Int32) (v2 : Int32) (g0 : ClassId) (f3 : Nat → Int32) (g1 : ClassId) (f4 : Nat → Int32) (g2 : ClassId) (f5 : Nat → Int32) (g3 : ClassId) (f6 : Nat → Int32) (g4 : ClassId) (f7 : Nat → Int32) (g5 : ClassId) (f8 : Nat → Int32) (v9 : Int32) (v10 : Int32) (i_v2 : 0 ≤ v2.toInt ∧ v2.toInt ≤ 1) (sz : Nat) : Met l yX8_place q_X8_place_3 ({ frames := 3, cells := 0, slots := 0, locals := 72 }) (va_Pc [.ref h0, .int 5, .int v9, .int v10] (fun U => U.heap.size = sz ∧ va_P (dC, dI) vwCl (wd_1ad5b18c h0 h1 h2 h3 h4 h5 h6 v0 v1 v2 h1 g0 f3 h2 g1 f4 h3 g2 f5 h4 g3 f6 h5 g4 f7 h6 g5 f8) U.heap ∧ va_K (dC, dI) vwCl [(g0, .int), (g1, .int), (g2, .int), (g3, .int), (g4, .int), (g5, .int)] U ∧ va_D (fun _ => True) (wd_1ad5b18c h0 h1 h2 h3 h4 h5 h6 v0 v1 v2 h1 g0 f3 h2 g1 f4 h3 g2 f5 h4 g3 f6 h5 g4 f7 h6 g5 f8))) (va_Qi (fun (r : Int32) (_ : Unit) => 0 ≤ r.toInt ∧ r.toInt ≤ 1) (fun (_ : Unit) (t : State) => ∃ (o_h4 : Nat → Int32) (o_h5 : Nat → Int32) (o_h6 : Nat → Int32), va_P (dC, dI) vwCl (wd_1ad5b18c h0 h1 h2 h3 h4 h5 h6 v0 v1 v2 h1 g0 f3 h2 g1 f4 h3 g2 f5 h4 g3 o_h4 h5 g4 o_h5 h6 g5 o_h6) t.heap ∧ va_K (dC, dI) vwCl [] t ∧ va_D (va_A (wd_1ad5b18c h0 h1 h2 h3 h4 h5 h6 v0 v1 v2 h1 g0 f3 h2 g1 f4 h3 g2 f5 h4 g3 f6 h5 g4 f7 h6 g5 f8) sz) (wd_1ad5b18c h0 h1 h2 h3 h4 h5 h6 v0 v1 v2 h1 g0 f3 h2 g1 f4 h3 g2 f5 h4 g3 o_h4 h5 g4 o_h5 h6 g5 o_h6)) (va_A (wd_1ad5b18c h0 h1 h2 h3 h4 h5 h6 v0 v1 v2 h1 g0 f3 h2 g1 f4 h3 g2 f5 h4 g3 f6 h5 g4 f7 h6 g5 f8) sz)) 0 0 (va_A (wd_1ad5b18c h0 h1 h2 h3 h4 h5 h6 v0 v1 v2 h1 g0 f3 h2 g1 f4 h3 g2 f5 h4 g3 f6 h5 g4 f7 h6 g5 f8) sz) := by
  refine Met.ofW (cc := cX8_place) (maxL := 5) (ret := (some .boolean)) (by decide) rfl ?_
  intro p e s m args below meth c s₁ B hml hv
  obtain ⟨i_v2a, i_v2b⟩ := i_v2
  obtain ⟨rfl, hsz, hP, hK, hD0⟩ := hv
  have hx := B.exec
  have hb := B.bytes
  have hr := B.returns
  have hts := atoms_spec (ws := q_X8_place_3) B.pre
  have hown : s.vm.findClass RX8 = some m.cls := findClass_of_methodNamed B.named
  have hlocks := B.notSynchronized
  subst hsz
  have hD := hD0.self (sz := s.heap.size)
  generalize hAe : va_A (wd_1ad5b18c h0 h1 h2 h3 h4 h5 h6 v0 v1 v2 h1 g0 f3 h2 g1 f4 h3 g2 f5 h4 g3 f6 h5 g4 f7 h6 g5 f8) s.heap.size = A at hD ⊢
  have hA : ∀ q : Nat, s.heap.size ≤ q → A q := fun q h => by rw [← hAe]; exact Or.inr h
  have hS : va_S A s.heap s.heap [] := va_S.rf
  generalize hQ : (MQ below _ _ s 0 0 A) = Q
  have hl := lv_entry ([.ref h0, .int 5, .int v9, .int v10]) (n := 5) (Nat.le_of_ble_eq_true rfl)
  rw [lg_entry_eq]
  generalize (lg_sl ([.ref h0, .int 5, .int v9, .int v10]) ++ List.replicate (5 - (lg_sl ([.ref h0, .int 5, .int v9, .int v10])).length) Slot.unset).toArray = ls at hl ⊢
  have hl : lv_has ls 5 [(0, .ref h0), (1, .int 5), (2, .int v9), (3, .int v10)] := hl
  obtain ⟨H, hH⟩ : ∃ H : Heap, H = s.heap := ⟨_, rfl⟩
  obtain ⟨locs, hlocs⟩ : ∃ y : List Loc, y = [] := ⟨_, rfl⟩
  have hS : va_S A s.heap H locs := by rw [hH, hlocs]; exact va_S.rf
  have hP : va_P (dC, dI) vwCl (wd_1ad5b18c h0 h1 h2 h3 h4 h5 h6 v0 v1 v2 h1 g0 f3 h2 g1 f4 h3 g2 f5 h4 g3 f6 h5 g4 f7 h6 g5 f8) H := by rw [hH]; exact hP
  rw [← hH, ← hlocs]
  refine lv_iload_n hx hb dX8_place_0 rfl (lv_at hl 1 rfl) ?_
  refine lv_if_lt (tgt := 18) hx hb dX8_place_1 (by decide) (fun c => absurd c (by decide)) (fun _ => ?_)
  refine lv_iload_n hx hb dX8_place_4 rfl (lv_at hl 1 rfl) ?_
  refine lv_aload_n hx hb dX8_place_5 rfl (lv_at hl 0 rfl) ?_
  refine va_get (D := (dC, dI)) (ci := 8) (v := .int v0) (C := RX8) (T := TX8) (N := 9) hx hb hts (fun _ h => List.mem_cons_of_mem _ (List.mem_append_right _ h)) hown hK hP 0 rfl rfl 6 (by decide) (hts (.fieldLink RX8 30 "LeftArguments$Rows" "bags" "I") (List.mem_cons_of_mem _ (List.mem_append_left _ (List.mem_of_getElem? (i := 0) rfl)))) (fun _ h9 => h9) rfl dX8_place_6 ?_
  refine lv_icmp_ge (tgt := 18) hx hb dX8_place_9 (by decide) (fun c1 => ?_) (fun c1 => ?_)
  · skip
    have fc1 : v0.toInt ≤ 5 := Int32.le_iff_toInt_le.mp c1
    refine lv_iconst (v := 1) hx hb dX8_place_18 (by decide) ?_
    subst hQ
    have hP9 := hP.sub (ws' := (wd_1ad5b18c h0 h1 h2 h3 h4 h5 h6 v0 v1 v2 h1 g0 f3 h2 g1 f4 h3 g2 f5 h4 g3 f6 h5 g4 f7 h6 g5 f8)) [0, 1, 2, 3, 4, 5, 6] rfl
    have hD9 := hD.sub (ws' := (wd_1ad5b18c h0 h1 h2 h3 h4 h5 h6 v0 v1 v2 h1 g0 f3 h2 g1 f4 h3 g2 f5 h4 g3 f6 h5 g4 f7 h6 g5 f8)) [0, 1, 2, 3, 4, 5, 6] (by decide) rfl
    have hK9 := hK.sub (tys' := []) [] rfl
    exact W.zret (v := 1) hx hb hr rfl (fun t ht hW => ⟨⟨1, (), rfl, ⟨by first | omega | decide, by first | omega | decide⟩, f6, f7, f8, by rw [ht]; exact hP9, va_K.moved hW.alike hK9, hD9⟩, hS.F ht⟩) hS.2.2 dX8_place_19
  · skip
    have fc1 : ¬ (v0.toInt ≤ 5) := fun h9 => c1 (Int32.le_iff_toInt_le.mpr h9)
    refine lv_iload_n hx hb dX8_place_12 rfl (lv_at hl 1 rfl) ?_
    refine lv_bipush (v := 8) hx hb dX8_place_13 (by decide) ?_
    refine lv_icmp_lt (tgt := 20) hx hb dX8_place_15 (by decide) (fun _ => ?_) (fun c => absurd (by decide) c)
    refine lv_iconst (v := 0) hx hb dX8_place_20 (by decide) ?_
    refine lv_istore (lv' := [(4, .int 0), (0, .ref h0), (1, .int 5), (2, .int v9), (3, .int v10)]) hx hb dX8_place_21 hl (by decide) rfl (fun ls hl => ?_)
    have hL22 : ∀ (n9 : Nat), ∀ (x14 : Int32) (fn15 : Nat → Int32) (fn16 : Nat → Int32) (fn17 : Nat → Int32) (H : Heap) (locs : List Loc) (ls : Array Slot), 0 ≤ x14.toInt → x14.toInt ≤ 8 → (8 - x14.toInt).toNat < n9 → va_P (dC, dI) vwCl (wd_1ad5b18c h0 h1 h2 h3 h4 h5 h6 v0 v1 v2 h1 g0 f3 h2 g1 f4 h3 g2 f5 h4 g3 fn15 h5 g4 fn16 h6 g5 fn17) H → va_D A (wd_1ad5b18c h0 h1 h2 h3 h4 h5 h6 v0 v1 v2 h1 g0 f3 h2 g1 f4 h3 g2 f5 h4 g3 fn15 h5 g4 fn16 h6 g5 fn17) → va_S A s.heap H locs → lv_has ls 5 [(4, .int x14), (0, .ref h0), (1, .int 5), (2, .int v9), (3, .int v10)] → W p l e ({ frames := 3, cells := 0, slots := 0, locals := 72 }) s m ([.ref h0, .int 5, .int v9, .int v10] : List Value).toArray below meth c H locs 0 0 Q (F0 m 23 ls []) := by
      intro n9
      induction n9 with
      | zero => intro x14 fn15 fn16 fn17 H locs ls qa_x14 qb_x14 hm9 hP hD hS hl; exact absurd hm9 (Nat.not_lt_zero _)
      | succ n9 ih_hL22 =>
        intro x14 fn15 fn16 fn17 H locs ls qa_x14 qb_x14 hm9 hP hD hS hl
        refine lv_iload hx hb dX8_place_23 (lv_at hl 0 rfl) ?_
        refine lv_iload_n hx hb dX8_place_25 rfl (lv_at hl 3 rfl) ?_
        refine lv_icmp_gt (tgt := 157) hx hb dX8_place_26 (by decide) (fun c23 => ?_) (fun c23 => ?_)
        · skip
          have fc23 : v9.toInt < x14.toInt := Int32.lt_iff_toInt_lt.mp c23
          have r1c23 := Int32.toInt_lt x14
          have r2c23 := Int32.toInt_lt v9
          have r3c23 := Int32.le_toInt x14
          have r4c23 := Int32.le_toInt v9
          refine lv_iconst (v := 0) hx hb dX8_place_157 (by decide) ?_
          subst hQ
          have hP9 := hP.sub (ws' := (wd_1ad5b18c h0 h1 h2 h3 h4 h5 h6 v0 v1 v2 h1 g0 f3 h2 g1 f4 h3 g2 f5 h4 g3 fn15 h5 g4 fn16 h6 g5 fn17)) [0, 1, 2, 3, 4, 5, 6] rfl
          have hD9 := hD.sub (ws' := (wd_1ad5b18c h0 h1 h2 h3 h4 h5 h6 v0 v1 v2 h1 g0 f3 h2 g1 f4 h3 g2 f5 h4 g3 fn15 h5 g4 fn16 h6 g5 fn17)) [0, 1, 2, 3, 4, 5, 6] (by decide) rfl
          have hK9 := hK.sub (tys' := []) [] rfl
          exact W.zret (v := 0) hx hb hr rfl (fun t ht hW => ⟨⟨0, (), rfl, ⟨by first | omega | decide, by first | omega | decide⟩, fn15, fn16, fn17, by rw [ht]; exact hP9, va_K.moved hW.alike hK9, hD9⟩, hS.F ht⟩) hS.2.2 dX8_place_158
        · skip
          have fc23 : ¬ (v9.toInt < x14.toInt) := fun h9 => c23 (Int32.lt_iff_toInt_lt.mpr h9)
          have r1c23 := Int32.toInt_lt x14
          have r2c23 := Int32.toInt_lt v9
          have r3c23 := Int32.le_toInt x14
          have r4c23 := Int32.le_toInt v9
          refine lv_iload hx hb dX8_place_29 (lv_at hl 0 rfl) ?_
          refine lv_iload_n hx hb dX8_place_31 rfl (lv_at hl 4 rfl) ?_
          refine lv_icmp_ge (tgt := 157) hx hb dX8_place_32 (by decide) (fun c24 => ?_) (fun c24 => ?_)
          · skip
            have fc24 : v10.toInt ≤ x14.toInt := Int32.le_iff_toInt_le.mp c24
            have r1c24 := Int32.toInt_lt x14
            have r2c24 := Int32.toInt_lt v10
            have r3c24 := Int32.le_toInt x14
            have r4c24 := Int32.le_toInt v10
            refine lv_iconst (v := 0) hx hb dX8_place_157 (by decide) ?_
            subst hQ
            have hP9 := hP.sub (ws' := (wd_1ad5b18c h0 h1 h2 h3 h4 h5 h6 v0 v1 v2 h1 g0 f3 h2 g1 f4 h3 g2 f5 h4 g3 fn15 h5 g4 fn16 h6 g5 fn17)) [0, 1, 2, 3, 4, 5, 6] rfl
            have hD9 := hD.sub (ws' := (wd_1ad5b18c h0 h1 h2 h3 h4 h5 h6 v0 v1 v2 h1 g0 f3 h2 g1 f4 h3 g2 f5 h4 g3 fn15 h5 g4 fn16 h6 g5 fn17)) [0, 1, 2, 3, 4, 5, 6] (by decide) rfl
            have hK9 := hK.sub (tys' := []) [] rfl
            exact W.zret (v := 0) hx hb hr rfl (fun t ht hW => ⟨⟨0, (), rfl, ⟨by first | omega | decide, by first | omega | decide⟩, fn15, fn16, fn17, by rw [ht]; exact hP9, va_K.moved hW.alike hK9, hD9⟩, hS.F ht⟩) hS.2.2 dX8_place_158
          · skip
            have fc24 : ¬ (v10.toInt ≤ x14.toInt) := fun h9 => c24 (Int32.le_iff_toInt_le.mpr h9)
            have r1c24 := Int32.toInt_lt x14
            have r2c24 := Int32.toInt_lt v10
            have r3c24 := Int32.le_toInt x14
            have r4c24 := Int32.le_toInt v10
            refine lv_iload hx hb dX8_place_35 (lv_at hl 0 rfl) ?_
            refine lv_bipush (v := 8) hx hb dX8_place_37 (by decide) ?_
            refine lv_icmp_ge (tgt := 157) hx hb dX8_place_39 (by decide) (fun c25 => ?_) (fun c25 => ?_)
            · skip
              have fc25 : 8 ≤ x14.toInt := Int32.le_iff_toInt_le.mp c25
              refine lv_iconst (v := 0) hx hb dX8_place_157 (by decide) ?_
              subst hQ
              have hP9 := hP.sub (ws' := (wd_1ad5b18c h0 h1 h2 h3 h4 h5 h6 v0 v1 v2 h1 g0 f3 h2 g1 f4 h3 g2 f5 h4 g3 fn15 h5 g4 fn16 h6 g5 fn17)) [0, 1, 2, 3, 4, 5, 6] rfl
              have hD9 := hD.sub (ws' := (wd_1ad5b18c h0 h1 h2 h3 h4 h5 h6 v0 v1 v2 h1 g0 f3 h2 g1 f4 h3 g2 f5 h4 g3 fn15 h5 g4 fn16 h6 g5 fn17)) [0, 1, 2, 3, 4, 5, 6] (by decide) rfl
              have hK9 := hK.sub (tys' := []) [] rfl
              exact W.zret (v := 0) hx hb hr rfl (fun t ht hW => ⟨⟨0, (), rfl, ⟨by first | omega | decide, by first | omega | decide⟩, fn15, fn16, fn17, by rw [ht]; exact hP9, va_K.moved hW.alike hK9, hD9⟩, hS.F ht⟩) hS.2.2 dX8_place_158
            · skip
              have fc25 : ¬ (8 ≤ x14.toInt) := fun h9 => c25 (Int32.le_iff_toInt_le.mpr h9)
              refine lv_aload_n hx hb dX8_place_42 rfl (lv_at hl 1 rfl) ?_
              refine lv_iload_n hx hb dX8_place_43 rfl (lv_at hl 2 rfl) ?_
              refine lv_iload hx hb dX8_place_44 (lv_at hl 0 rfl) ?_
              have hPc := hP.sub (ws' := (wd_62728821 h0 h1 h2 h3 h4 h5 h6 v0 v1 v2 h1 g0 f3 h2 g1 f4 h5 g4 fn16 h6 g5 fn17)) [0, 1, 2, 5, 6] rfl
              have hDc := hD.sub (ws' := (wd_62728821 h0 h1 h2 h3 h4 h5 h6 v0 v1 v2 h1 g0 f3 h2 g1 f4 h5 g4 fn16 h6 g5 fn17)) [0, 1, 2, 5, 6] (by decide) rfl
              have hKc := hK.sub (tys' := [(g0, .int), (g1, .int), (g4, .int), (g5, .int)]) [0, 1, 4, 5] rfl
              have hFc := va_free (wc := (wd_62728821 h0 h1 h2 h3 h4 h5 h6 v0 v1 v2 h1 g0 f3 h2 g1 f4 h5 g4 fn16 h6 g5 fn17)) hD hS hA [0, 1, 2, 5, 6] rfl
              refine va_calli (va_runV (As := [.int 5, .int x14]) (rest := []) ⟨hx, hb, hml, hown, hts⟩ (k_X8_standsWell l dC dI h0 h1 h2 h5 h6 h3 h4 v0 v1 v2 g0 f3 g1 f4 g4 fn16 g5 fn17 5 x14 ⟨i_v2a, i_v2b⟩ H.size) (cwV 2 hts g_X8_place_3_0 rfl rfl rfl (by decide +kernel) ⟨Nat.le_of_ble_eq_true rfl, Nat.le_of_ble_eq_true rfl⟩) (pv_PV8 hPc hKc hDc (q0 := 0) rfl) rfl rfl hl.1 rfl (lv_room (Nat.le_of_ble_eq_true rfl)) dX8_place_46 ⟨Nat.le_of_ble_eq_true rfl, Nat.le_of_ble_eq_true rfl⟩) hS (fun q _ h => hFc q h) hFc (fun ra26 u t H1 locs ht hvm hwra26 hB hz1 hk1 hS => ?_)
              obtain ⟨hP1, hK1, hD1⟩ := hB
              rw [ht] at hP1
              obtain ⟨hP2, hD2⟩ := va_join (wr := (wd_c3b6304c h3 g2 f5 h4 g3 fn15)) (w1 := (wd_62728821 h0 h1 h2 h3 h4 h5 h6 v0 v1 v2 h1 g0 f3 h2 g1 f4 h5 g4 fn16 h6 g5 fn17)) hP hD [0, 1, 2, 5, 6] [3, 4] rfl rfl (by decide) (by decide) hk1 hFc hP1 hD1
              clear hP hD hPc hDc hKc hFc hP1 hK1 hD1 hk1 hz1
              generalize H1 = H at hP2 hS ⊢
              have hP := hP2.sub (ws' := (wd_1ad5b18c h0 h1 h2 h3 h4 h5 h6 v0 v1 v2 h1 g0 f3 h2 g1 f4 h3 g2 f5 h4 g3 fn15 h5 g4 fn16 h6 g5 fn17)) [2, 3, 4, 0, 1, 5, 6] rfl
              have hD := hD2.sub (ws' := (wd_1ad5b18c h0 h1 h2 h3 h4 h5 h6 v0 v1 v2 h1 g0 f3 h2 g1 f4 h3 g2 f5 h4 g3 fn15 h5 g4 fn16 h6 g5 fn17)) [2, 3, 4, 0, 1, 5, 6] (by decide) rfl
              clear hP2 hD2
              obtain ⟨wa_ra26, wb_ra26⟩ := hwra26
              have wa_ra26 : 0 ≤ ra26.toInt := wa_ra26
              have wb_ra26 : ra26.toInt ≤ 1 := wb_ra26
              refine lv_if_eq (tgt := 151) hx hb dX8_place_49 (by decide) (fun c27 => ?_) (fun c27 => ?_)
              · skip
                have fc27 : ra26.toInt = 0 := congrArg Int32.toInt c27
                obtain ⟨t28, et28⟩ : ∃ y : Int32, y = x14 + 1 := ⟨_, rfl⟩
                have gt28 : t28.toInt = x14.toInt + (1) := pv_add (a := x14.toInt) (b := (1)) et28 rfl (by decide) (by omega) (by omega)
                refine lv_iinc (v := t28) (lv' := [(4, .int t28), (0, .ref h0), (1, .int 5), (2, .int v9), (3, .int v10)]) hx hb dX8_place_151 hl (k := 0) rfl (by rw [et28]; rfl) (by decide) rfl (fun ls hl => ?_)
                refine lv_goto (tgt := 23) hx hb dX8_place_154 (by decide) ?_
                exact ih_hL22 t28 fn15 fn16 fn17 H locs ls (by first | omega | decide) (by first | omega | decide) (by first | omega | (simp only [Int.toNat] at *; omega)) hP hD hS (lv_sub hl [0, 1, 2, 3, 4] rfl)
              · skip
                have fc27 : ¬ (ra26.toInt = 0) := fun h9 => c27 (Int32.toInt_inj.mp h9)
                refine lv_aload_n hx hb dX8_place_52 rfl (lv_at hl 1 rfl) ?_
                refine va_get (D := (dC, dI)) (ci := 8) (v := .ref h4) (C := RX8) (T := TX8) (N := 9) hx hb hts (fun _ h => List.mem_cons_of_mem _ (List.mem_append_right _ h)) hown hK hP 0 rfl rfl 3 (by decide) (hts (.fieldLink RX8 21 "LeftArguments$Rows" "chosen" "[I") (List.mem_cons_of_mem _ (List.mem_append_left _ (List.mem_of_getElem? (i := 12) rfl)))) (fun _ h9 => h9) rfl dX8_place_53 ?_
                refine lv_iload_n hx hb dX8_place_56 rfl (lv_at hl 2 rfl) ?_
                refine lv_iload hx hb dX8_place_57 (lv_at hl 0 rfl) ?_
                refine va_iast hx hb hK hP hD hS 4 3 rfl rfl (pv_c (x := 5) (n := 8) (by decide)) dX8_place_59 (fun H locs hP hD hS => ?_)
                obtain ⟨fn29, efn29⟩ : ∃ g : Nat → Int32, g = upd fn15 (Int32.toNatClampNeg 5) x14 := ⟨_, rfl⟩
                rw [← efn29] at hP hD
                have hP : va_P (dC, dI) vwCl (wd_1ad5b18c h0 h1 h2 h3 h4 h5 h6 v0 v1 v2 h1 g0 f3 h2 g1 f4 h3 g2 f5 h4 g3 fn29 h5 g4 fn16 h6 g5 fn17) H := hP
                have hD : va_D A (wd_1ad5b18c h0 h1 h2 h3 h4 h5 h6 v0 v1 v2 h1 g0 f3 h2 g1 f4 h3 g2 f5 h4 g3 fn29 h5 g4 fn16 h6 g5 fn17) := hD
                refine lv_aload_n hx hb dX8_place_60 rfl (lv_at hl 1 rfl) ?_
                refine va_get (D := (dC, dI)) (ci := 8) (v := .ref h5) (C := RX8) (T := TX8) (N := 9) hx hb hts (fun _ h => List.mem_cons_of_mem _ (List.mem_append_right _ h)) hown hK hP 0 rfl rfl 4 (by decide) (hts (.fieldLink RX8 24 "LeftArguments$Rows" "loads" "[I") (List.mem_cons_of_mem _ (List.mem_append_left _ (List.mem_of_getElem? (i := 5) rfl)))) (fun _ h9 => h9) rfl dX8_place_61 ?_
                refine lv_iload hx hb dX8_place_64 (lv_at hl 0 rfl) ?_
                refine lv_dup2_11 hx hb dX8_place_66 rfl rfl ?_
                refine va_iald hx hb hK hP 5 4 rfl rfl (vp_in_iff.mpr ⟨by omega, by omega⟩) dX8_place_67 ?_
                refine lv_topi (fun t30 et30 => ?_)
                refine lv_aload_n hx hb dX8_place_68 rfl (lv_at hl 1 rfl) ?_
                refine va_get (D := (dC, dI)) (ci := 8) (v := .ref h1) (C := RX8) (T := TX8) (N := 9) hx hb hts (fun _ h => List.mem_cons_of_mem _ (List.mem_append_right _ h)) hown hK hP 0 rfl rfl 0 (by decide) (hts (.fieldLink RX8 9 "LeftArguments$Rows" "sizes" "[I") (List.mem_cons_of_mem _ (List.mem_append_left _ (List.mem_of_getElem? (i := 6) rfl)))) (fun _ h9 => h9) rfl dX8_place_69 ?_
                refine lv_iload_n hx hb dX8_place_72 rfl (lv_at hl 2 rfl) ?_
                refine va_iald hx hb hK hP 1 0 rfl rfl (pv_c (x := 5) (n := 8) (by decide)) dX8_place_73 ?_
                refine lv_topi (fun t31 et31 => ?_)
                refine lv_iadd hx hb dX8_place_74 ?_
                refine lv_topi (fun t32 et32 => ?_)
                refine va_iast hx hb hK hP hD hS 5 4 rfl rfl (vp_in_iff.mpr ⟨by omega, by omega⟩) dX8_place_75 (fun H locs hP hD hS => ?_)
                obtain ⟨fn33, efn33⟩ : ∃ g : Nat → Int32, g = upd fn16 (Int32.toNatClampNeg x14) t32 := ⟨_, rfl⟩
                rw [← efn33] at hP hD
                have hP : va_P (dC, dI) vwCl (wd_1ad5b18c h0 h1 h2 h3 h4 h5 h6 v0 v1 v2 h1 g0 f3 h2 g1 f4 h3 g2 f5 h4 g3 fn29 h5 g4 fn33 h6 g5 fn17) H := hP
                have hD : va_D A (wd_1ad5b18c h0 h1 h2 h3 h4 h5 h6 v0 v1 v2 h1 g0 f3 h2 g1 f4 h3 g2 f5 h4 g3 fn29 h5 g4 fn33 h6 g5 fn17) := hD
                refine lv_aload_n hx hb dX8_place_76 rfl (lv_at hl 1 rfl) ?_
                refine va_get (D := (dC, dI)) (ci := 8) (v := .ref h6) (C := RX8) (T := TX8) (N := 9) hx hb hts (fun _ h => List.mem_cons_of_mem _ (List.mem_append_right _ h)) hown hK hP 0 rfl rfl 5 (by decide) (hts (.fieldLink RX8 27 "LeftArguments$Rows" "standing" "[I") (List.mem_cons_of_mem _ (List.mem_append_left _ (List.mem_of_getElem? (i := 3) rfl)))) (fun _ h9 => h9) rfl dX8_place_77 ?_
                refine lv_iload hx hb dX8_place_80 (lv_at hl 0 rfl) ?_
                refine lv_dup2_11 hx hb dX8_place_82 rfl rfl ?_
                refine va_iald hx hb hK hP 6 5 rfl rfl (vp_in_iff.mpr ⟨by omega, by omega⟩) dX8_place_83 ?_
                refine lv_topi (fun t34 et34 => ?_)
                refine lv_iconst (v := 1) hx hb dX8_place_84 (by decide) ?_
                refine lv_aload_n hx hb dX8_place_85 rfl (lv_at hl 1 rfl) ?_
                refine va_get (D := (dC, dI)) (ci := 8) (v := .ref h3) (C := RX8) (T := TX8) (N := 9) hx hb hts (fun _ h => List.mem_cons_of_mem _ (List.mem_append_right _ h)) hown hK hP 0 rfl rfl 2 (by decide) (hts (.fieldLink RX8 18 "LeftArguments$Rows" "places" "[I") (List.mem_cons_of_mem _ (List.mem_append_left _ (List.mem_of_getElem? (i := 13) rfl)))) (fun _ h9 => h9) rfl dX8_place_86 ?_
                refine lv_iload_n hx hb dX8_place_89 rfl (lv_at hl 2 rfl) ?_
                refine va_iald hx hb hK hP 3 2 rfl rfl (pv_c (x := 5) (n := 8) (by decide)) dX8_place_90 ?_
                refine lv_topi (fun t35 et35 => ?_)
                refine lv_ishl hx hb dX8_place_91 ?_
                refine lv_topi (fun t36 et36 => ?_)
                refine lv_ior hx hb dX8_place_92 ?_
                refine lv_topi (fun t37 et37 => ?_)
                refine va_iast hx hb hK hP hD hS 6 5 rfl rfl (vp_in_iff.mpr ⟨by omega, by omega⟩) dX8_place_93 (fun H locs hP hD hS => ?_)
                obtain ⟨fn38, efn38⟩ : ∃ g : Nat → Int32, g = upd fn17 (Int32.toNatClampNeg x14) t37 := ⟨_, rfl⟩
                rw [← efn38] at hP hD
                have hP : va_P (dC, dI) vwCl (wd_1ad5b18c h0 h1 h2 h3 h4 h5 h6 v0 v1 v2 h1 g0 f3 h2 g1 f4 h3 g2 f5 h4 g3 fn29 h5 g4 fn33 h6 g5 fn38) H := hP
                have hD : va_D A (wd_1ad5b18c h0 h1 h2 h3 h4 h5 h6 v0 v1 v2 h1 g0 f3 h2 g1 f4 h3 g2 f5 h4 g3 fn29 h5 g4 fn33 h6 g5 fn38) := hD
                refine lv_aload_n hx hb dX8_place_94 rfl (lv_at hl 1 rfl) ?_
                refine lv_iload_n hx hb dX8_place_95 rfl (lv_at hl 2 rfl) ?_
                refine lv_iconst (v := 1) hx hb dX8_place_96 (by decide) ?_
                refine lv_iadd hx hb dX8_place_97 ?_
                refine lv_topi (fun tv39 etv39 => ?_)
                obtain rfl : tv39 = (6 : Int32) := etv39.trans (by first | rfl | decide)
                refine lv_iload_n hx hb dX8_place_98 rfl (lv_at hl 3 rfl) ?_
                refine lv_iload hx hb dX8_place_99 (lv_at hl 0 rfl) ?_
                refine lv_iconst (v := 1) hx hb dX8_place_101 (by decide) ?_
                refine lv_iadd hx hb dX8_place_102 ?_
                refine lv_topi (fun t40 et40 => ?_)
                have gt40 : t40.toInt = x14.toInt + 1 := pv_add (a := x14.toInt) (b := 1) et40 rfl (by decide) (by omega) (by omega)
                refine va_mmax hx hb (by rw [hml]; exact hl.1.symm) hown (hts (.methodLink RX8 72 Lib.Math.max.name) (List.mem_cons_of_mem _ (List.mem_append_left _ (List.mem_of_getElem? (i := 14) rfl)))) (hts (.static Lib.Math.max.name) (List.mem_cons_of_mem _ (List.mem_append_left _ (List.mem_of_getElem? (i := 15) rfl)))) (hts (.initialized "java/lang/Math") (List.mem_cons_of_mem _ (List.mem_append_left _ (List.mem_of_getElem? (i := 16) rfl)))) (hts (.code Lib.Math.max.name Lib.Math.max.code 2 (some .int)) (List.mem_cons_of_mem _ (List.mem_append_left _ (List.mem_of_getElem? (i := 17) rfl)))) (Nat.le_of_ble_eq_true rfl) (Nat.le_of_ble_eq_true rfl) (Nat.le_of_ble_eq_true rfl) (Nat.le_of_ble_eq_true rfl) dX8_place_103 ?_
                refine lv_topi (fun t41 et41 => ?_)
                obtain ⟨gat41, gbt41, gct41⟩ := pv_max (a := v9.toInt) (b := t40.toInt) et41 rfl rfl
                refine lv_iload_n hx hb dX8_place_106 rfl (lv_at hl 4 rfl) ?_
                have hPc := hP.sub (ws' := (wd_1ad5b18c h0 h1 h2 h3 h4 h5 h6 v0 v1 v2 h1 g0 f3 h2 g1 f4 h3 g2 f5 h4 g3 fn29 h5 g4 fn33 h6 g5 fn38)) [0, 1, 2, 3, 4, 5, 6] rfl
                have hDc := hD.sub (ws' := (wd_1ad5b18c h0 h1 h2 h3 h4 h5 h6 v0 v1 v2 h1 g0 f3 h2 g1 f4 h3 g2 f5 h4 g3 fn29 h5 g4 fn33 h6 g5 fn38)) [0, 1, 2, 3, 4, 5, 6] (by decide) rfl
                have hKc := hK.sub (tys' := [(g0, .int), (g1, .int), (g2, .int), (g3, .int), (g4, .int), (g5, .int)]) [0, 1, 2, 3, 4, 5] rfl
                have hFc := va_free (wc := (wd_1ad5b18c h0 h1 h2 h3 h4 h5 h6 v0 v1 v2 h1 g0 f3 h2 g1 f4 h3 g2 f5 h4 g3 fn29 h5 g4 fn33 h6 g5 fn38)) hD hS hA [0, 1, 2, 3, 4, 5, 6] rfl
                refine va_calli (va_runV (As := [.int 6, .int t41, .int v10]) (rest := []) ⟨hx, hb, hml, hown, hts⟩ (k_X8_place_2 l dC dI h0 h1 h2 h3 h4 h5 h6 v0 v1 v2 g0 f3 g1 f4 g2 f5 g3 fn29 g4 fn33 g5 fn38 t41 v10 ⟨i_v2a, i_v2b⟩ H.size) (cwV 3 hts g_X8_place_3_1 rfl rfl rfl (by decide +kernel) ⟨Nat.le_of_ble_eq_true rfl, Nat.le_of_ble_eq_true rfl⟩) (pv_PV8 hPc hKc hDc (q0 := 0) rfl) rfl rfl hl.1 rfl (lv_room (Nat.le_of_ble_eq_true rfl)) dX8_place_107 ⟨Nat.le_of_ble_eq_true rfl, Nat.le_of_ble_eq_true rfl⟩) hS (fun q _ h => hFc q h) hFc (fun ra42 u t H1 locs ht hvm hwra42 hB hz1 hk1 hS => ?_)
                obtain ⟨fn43, fn44, fn45, hP1, hK1, hD1⟩ := hB
                rw [ht] at hP1
                obtain ⟨hP2, hD2⟩ := va_join (wr := []) (w1 := (wd_1ad5b18c h0 h1 h2 h3 h4 h5 h6 v0 v1 v2 h1 g0 f3 h2 g1 f4 h3 g2 f5 h4 g3 fn43 h5 g4 fn44 h6 g5 fn45)) hP hD [0, 1, 2, 3, 4, 5, 6] [] rfl rfl (by decide) (by decide) hk1 hFc hP1 hD1
                clear hP hD hPc hDc hKc hFc hP1 hK1 hD1 hk1 hz1
                generalize H1 = H at hP2 hS ⊢
                have hP : va_P (dC, dI) vwCl (wd_1ad5b18c h0 h1 h2 h3 h4 h5 h6 v0 v1 v2 h1 g0 f3 h2 g1 f4 h3 g2 f5 h4 g3 fn43 h5 g4 fn44 h6 g5 fn45) H := hP2
                have hD : va_D A (wd_1ad5b18c h0 h1 h2 h3 h4 h5 h6 v0 v1 v2 h1 g0 f3 h2 g1 f4 h3 g2 f5 h4 g3 fn43 h5 g4 fn44 h6 g5 fn45) := hD2
                clear hP2 hD2
                obtain ⟨wa_ra42, wb_ra42⟩ := hwra42
                have wa_ra42 : 0 ≤ ra42.toInt := wa_ra42
                have wb_ra42 : ra42.toInt ≤ 1 := wb_ra42
                refine lv_if_eq (tgt := 115) hx hb dX8_place_110 (by decide) (fun c46 => ?_) (fun c46 => ?_)
                · skip
                  have fc46 : ra42.toInt = 0 := congrArg Int32.toInt c46
                  refine lv_aload_n hx hb dX8_place_115 rfl (lv_at hl 1 rfl) ?_
                  refine va_get (D := (dC, dI)) (ci := 8) (v := .ref h5) (C := RX8) (T := TX8) (N := 9) hx hb hts (fun _ h => List.mem_cons_of_mem _ (List.mem_append_right _ h)) hown hK hP 0 rfl rfl 4 (by decide) (hts (.fieldLink RX8 24 "LeftArguments$Rows" "loads" "[I") (List.mem_cons_of_mem _ (List.mem_append_left _ (List.mem_of_getElem? (i := 5) rfl)))) (fun _ h9 => h9) rfl dX8_place_116 ?_
                  refine lv_iload hx hb dX8_place_119 (lv_at hl 0 rfl) ?_
                  refine lv_dup2_11 hx hb dX8_place_121 rfl rfl ?_
                  refine va_iald hx hb hK hP 5 4 rfl rfl (vp_in_iff.mpr ⟨by omega, by omega⟩) dX8_place_122 ?_
                  refine lv_topi (fun t47 et47 => ?_)
                  refine lv_aload_n hx hb dX8_place_123 rfl (lv_at hl 1 rfl) ?_
                  refine va_get (D := (dC, dI)) (ci := 8) (v := .ref h1) (C := RX8) (T := TX8) (N := 9) hx hb hts (fun _ h => List.mem_cons_of_mem _ (List.mem_append_right _ h)) hown hK hP 0 rfl rfl 0 (by decide) (hts (.fieldLink RX8 9 "LeftArguments$Rows" "sizes" "[I") (List.mem_cons_of_mem _ (List.mem_append_left _ (List.mem_of_getElem? (i := 6) rfl)))) (fun _ h9 => h9) rfl dX8_place_124 ?_
                  refine lv_iload_n hx hb dX8_place_127 rfl (lv_at hl 2 rfl) ?_
                  refine va_iald hx hb hK hP 1 0 rfl rfl (pv_c (x := 5) (n := 8) (by decide)) dX8_place_128 ?_
                  refine lv_topi (fun t48 et48 => ?_)
                  refine lv_isub hx hb dX8_place_129 ?_
                  refine lv_topi (fun t49 et49 => ?_)
                  refine va_iast hx hb hK hP hD hS 5 4 rfl rfl (vp_in_iff.mpr ⟨by omega, by omega⟩) dX8_place_130 (fun H locs hP hD hS => ?_)
                  obtain ⟨fn50, efn50⟩ : ∃ g : Nat → Int32, g = upd fn44 (Int32.toNatClampNeg x14) t49 := ⟨_, rfl⟩
                  rw [← efn50] at hP hD
                  have hP : va_P (dC, dI) vwCl (wd_1ad5b18c h0 h1 h2 h3 h4 h5 h6 v0 v1 v2 h1 g0 f3 h2 g1 f4 h3 g2 f5 h4 g3 fn43 h5 g4 fn50 h6 g5 fn45) H := hP
                  have hD : va_D A (wd_1ad5b18c h0 h1 h2 h3 h4 h5 h6 v0 v1 v2 h1 g0 f3 h2 g1 f4 h3 g2 f5 h4 g3 fn43 h5 g4 fn50 h6 g5 fn45) := hD
                  refine lv_aload_n hx hb dX8_place_131 rfl (lv_at hl 1 rfl) ?_
                  refine va_get (D := (dC, dI)) (ci := 8) (v := .ref h6) (C := RX8) (T := TX8) (N := 9) hx hb hts (fun _ h => List.mem_cons_of_mem _ (List.mem_append_right _ h)) hown hK hP 0 rfl rfl 5 (by decide) (hts (.fieldLink RX8 27 "LeftArguments$Rows" "standing" "[I") (List.mem_cons_of_mem _ (List.mem_append_left _ (List.mem_of_getElem? (i := 3) rfl)))) (fun _ h9 => h9) rfl dX8_place_132 ?_
                  refine lv_iload hx hb dX8_place_135 (lv_at hl 0 rfl) ?_
                  refine lv_dup2_11 hx hb dX8_place_137 rfl rfl ?_
                  refine va_iald hx hb hK hP 6 5 rfl rfl (vp_in_iff.mpr ⟨by omega, by omega⟩) dX8_place_138 ?_
                  refine lv_topi (fun t51 et51 => ?_)
                  refine lv_iconst (v := 1) hx hb dX8_place_139 (by decide) ?_
                  refine lv_aload_n hx hb dX8_place_140 rfl (lv_at hl 1 rfl) ?_
                  refine va_get (D := (dC, dI)) (ci := 8) (v := .ref h3) (C := RX8) (T := TX8) (N := 9) hx hb hts (fun _ h => List.mem_cons_of_mem _ (List.mem_append_right _ h)) hown hK hP 0 rfl rfl 2 (by decide) (hts (.fieldLink RX8 18 "LeftArguments$Rows" "places" "[I") (List.mem_cons_of_mem _ (List.mem_append_left _ (List.mem_of_getElem? (i := 13) rfl)))) (fun _ h9 => h9) rfl dX8_place_141 ?_
                  refine lv_iload_n hx hb dX8_place_144 rfl (lv_at hl 2 rfl) ?_
                  refine va_iald hx hb hK hP 3 2 rfl rfl (pv_c (x := 5) (n := 8) (by decide)) dX8_place_145 ?_
                  refine lv_topi (fun t52 et52 => ?_)
                  refine lv_ishl hx hb dX8_place_146 ?_
                  refine lv_topi (fun t53 et53 => ?_)
                  refine lv_iconst (v := (-1)) hx hb dX8_place_147 (by decide) ?_
                  refine lv_ixor hx hb dX8_place_148 ?_
                  refine lv_topi (fun t54 et54 => ?_)
                  refine lv_iand hx hb dX8_place_149 ?_
                  refine lv_topi (fun t55 et55 => ?_)
                  refine va_iast hx hb hK hP hD hS 6 5 rfl rfl (vp_in_iff.mpr ⟨by omega, by omega⟩) dX8_place_150 (fun H locs hP hD hS => ?_)
                  obtain ⟨fn56, efn56⟩ : ∃ g : Nat → Int32, g = upd fn45 (Int32.toNatClampNeg x14) t55 := ⟨_, rfl⟩
                  rw [← efn56] at hP hD
                  have hP : va_P (dC, dI) vwCl (wd_1ad5b18c h0 h1 h2 h3 h4 h5 h6 v0 v1 v2 h1 g0 f3 h2 g1 f4 h3 g2 f5 h4 g3 fn43 h5 g4 fn50 h6 g5 fn56) H := hP
                  have hD : va_D A (wd_1ad5b18c h0 h1 h2 h3 h4 h5 h6 v0 v1 v2 h1 g0 f3 h2 g1 f4 h3 g2 f5 h4 g3 fn43 h5 g4 fn50 h6 g5 fn56) := hD
                  obtain ⟨t57, et57⟩ : ∃ y : Int32, y = x14 + 1 := ⟨_, rfl⟩
                  have gt57 : t57.toInt = x14.toInt + (1) := pv_add (a := x14.toInt) (b := (1)) et57 rfl (by decide) (by omega) (by omega)
                  refine lv_iinc (v := t57) (lv' := [(4, .int t57), (0, .ref h0), (1, .int 5), (2, .int v9), (3, .int v10)]) hx hb dX8_place_151 hl (k := 0) rfl (by rw [et57]; rfl) (by decide) rfl (fun ls hl => ?_)
                  refine lv_goto (tgt := 23) hx hb dX8_place_154 (by decide) ?_
                  exact ih_hL22 t57 fn43 fn50 fn56 H locs ls (by first | omega | decide) (by first | omega | decide) (by first | omega | (simp only [Int.toNat] at *; omega)) hP hD hS (lv_sub hl [0, 1, 2, 3, 4] rfl)
                · skip
                  have fc46 : ¬ (ra42.toInt = 0) := fun h9 => c46 (Int32.toInt_inj.mp h9)
                  refine lv_iconst (v := 1) hx hb dX8_place_113 (by decide) ?_
                  subst hQ
                  have hP9 := hP.sub (ws' := (wd_1ad5b18c h0 h1 h2 h3 h4 h5 h6 v0 v1 v2 h1 g0 f3 h2 g1 f4 h3 g2 f5 h4 g3 fn43 h5 g4 fn44 h6 g5 fn45)) [0, 1, 2, 3, 4, 5, 6] rfl
                  have hD9 := hD.sub (ws' := (wd_1ad5b18c h0 h1 h2 h3 h4 h5 h6 v0 v1 v2 h1 g0 f3 h2 g1 f4 h3 g2 f5 h4 g3 fn43 h5 g4 fn44 h6 g5 fn45)) [0, 1, 2, 3, 4, 5, 6] (by decide) rfl
                  have hK9 := hK.sub (tys' := []) [] rfl
                  exact W.zret (v := 1) hx hb hr rfl (fun t ht hW => ⟨⟨1, (), rfl, ⟨by first | omega | decide, by first | omega | decide⟩, fn43, fn44, fn45, by rw [ht]; exact hP9, va_K.moved hW.alike hK9, hD9⟩, hS.F ht⟩) hS.2.2 dX8_place_114
    exact hL22 _ 0 f6 f7 f8 H locs ls (by decide) (by decide) (Nat.lt_succ_self _) hP hD hS (lv_sub hl [0, 1, 2, 3, 4] rfl)
def q_X8_place_4 : List Cond := .code yX8_place cX8_place 5 (some .boolean) :: (([.fieldLink RX8 30 "LeftArguments$Rows" "bags" "I", .code yX8_standsWell cX8_standsWell 3 (some .boolean), .fieldLink RX8 37 "LeftArguments$Rows" "byRoom" "Z", .fieldLink RX8 27 "LeftArguments$Rows" "standing" "[I", .fieldLink RX8 15 "LeftArguments$Rows" "circles" "[I", .fieldLink RX8 24 "LeftArguments$Rows" "loads" "[I", .fieldLink RX8 9 "LeftArguments$Rows" "sizes" "[I", .fieldLink RX8 34 "LeftArguments$Rows" "wide" "I", .initialized RX8, .instanceMethod yX8_standsWell, .selects RX8 yX8_standsWell yX8_standsWell, .methodLink RX8 68 yX8_standsWell, .fieldLink RX8 21 "LeftArguments$Rows" "chosen" "[I", .fieldLink RX8 18 "LeftArguments$Rows" "places" "[I", .methodLink RX8 72 Lib.Math.max.name, .static Lib.Math.max.name, .initialized "java/lang/Math", .code Lib.Math.max.name Lib.Math.max.code 2 (some .int), .code yX8_place cX8_place 5 (some .boolean), .instanceMethod yX8_place, .selects RX8 yX8_place yX8_place, .methodLink RX8 64 yX8_place] : List Cond) ++ wsX80)
set_option maxRecDepth 20000 in
theorem g_X8_place_4_0 : GoodIn q_X8_place_4 (wsV RX8 68 RX8 yX8_standsWell q_X8_standsWell) := goodIn_app (goodIn_r _ [12, 10, 11, 9] rfl (by decide +kernel)) (goodIn_ca (goodIn_r (.code yX8_standsWell cX8_standsWell 3 (some .boolean) :: [.fieldLink RX8 37 "LeftArguments$Rows" "byRoom" "Z", .fieldLink RX8 27 "LeftArguments$Rows" "standing" "[I", .fieldLink RX8 15 "LeftArguments$Rows" "circles" "[I", .fieldLink RX8 24 "LeftArguments$Rows" "loads" "[I", .fieldLink RX8 9 "LeftArguments$Rows" "sizes" "[I", .fieldLink RX8 34 "LeftArguments$Rows" "wide" "I"]) [2, 3, 4, 5, 6, 7, 8] rfl (by decide +kernel)) (goodIn_sub (fun _ h => List.mem_cons_of_mem _ (List.mem_append_right _ h)) gwX8))
set_option maxRecDepth 20000 in
theorem g_X8_place_4_1 : GoodIn q_X8_place_4 (wsV RX8 64 RX8 yX8_place q_X8_place_3) := goodIn_app (goodIn_r _ [22, 20, 21, 9] rfl (by decide +kernel)) (goodIn_ca (goodIn_r (.code yX8_place cX8_place 5 (some .boolean) :: [.fieldLink RX8 30 "LeftArguments$Rows" "bags" "I", .code yX8_standsWell cX8_standsWell 3 (some .boolean), .fieldLink RX8 37 "LeftArguments$Rows" "byRoom" "Z", .fieldLink RX8 27 "LeftArguments$Rows" "standing" "[I", .fieldLink RX8 15 "LeftArguments$Rows" "circles" "[I", .fieldLink RX8 24 "LeftArguments$Rows" "loads" "[I", .fieldLink RX8 9 "LeftArguments$Rows" "sizes" "[I", .fieldLink RX8 34 "LeftArguments$Rows" "wide" "I", .initialized RX8, .instanceMethod yX8_standsWell, .selects RX8 yX8_standsWell yX8_standsWell, .methodLink RX8 68 yX8_standsWell, .fieldLink RX8 21 "LeftArguments$Rows" "chosen" "[I", .fieldLink RX8 18 "LeftArguments$Rows" "places" "[I", .methodLink RX8 72 Lib.Math.max.name, .static Lib.Math.max.name, .initialized "java/lang/Math", .code Lib.Math.max.name Lib.Math.max.code 2 (some .int), .code yX8_place cX8_place 5 (some .boolean), .instanceMethod yX8_place, .selects RX8 yX8_place yX8_place, .methodLink RX8 64 yX8_place]) [19, 1, 2, 3, 4, 5, 6, 7, 8, 9, 10, 11, 12, 13, 14, 15, 16, 17, 18, 19, 20, 21, 22] rfl (by decide +kernel)) (goodIn_sub (fun _ h => List.mem_cons_of_mem _ (List.mem_append_right _ h)) gwX8))
set_option maxHeartbeats 4000000 in
set_option maxRecDepth 100000 in
theorem k_X8_place_4 (l : Launch) (dC : Nat → ClassId) (dI : Nat → Nat → Nat) (h0 : Nat) (h1 : Nat) (h2 : Nat) (h3 : Nat) (h4 : Nat) (h5 : Nat) (h6 : Nat) (v0 : Int32) (v1 : Int32) (v2 : Int32) (g0 : ClassId) (f3 : Nat → Int32) (g1 : ClassId) (f4 : Nat → Int32) (g2 : ClassId) (f5 : Nat → Int32) (g3 : ClassId) (f6 : Nat → Int32) (g4 : ClassId) (f7 : Nat → Int32) (g5 : ClassId) (f8 : Nat → Int32) (v9 : Int32) (v10 : Int32) (i_v2 : 0 ≤ v2.toInt ∧ v2.toInt ≤ 1) (sz : Nat) : Met l yX8_place q_X8_place_4 ({ frames := 4, cells := 0, slots := 0, locals := 96 }) (va_Pc [.ref h0, .int 4, .int v9, .int v10] (fun U => U.heap.size = sz ∧ va_P (dC, dI) vwCl (wd_1ad5b18c h0 h1 h2 h3 h4 h5 h6 v0 v1 v2 h1 g0 f3 h2 g1 f4 h3 g2 f5 h4 g3 f6 h5 g4 f7 h6 g5 f8) U.heap ∧ va_K (dC, dI) vwCl [(g0, .int), (g1, .int), (g2, .int), (g3, .int), (g4, .int), (g5, .int)] U ∧ va_D (fun _ => True) (wd_1ad5b18c h0 h1 h2 h3 h4 h5 h6 v0 v1 v2 h1 g0 f3 h2 g1 f4 h3 g2 f5 h4 g3 f6 h5 g4 f7 h6 g5 f8))) (va_Qi (fun (r : Int32) (_ : Unit) => 0 ≤ r.toInt ∧ r.toInt ≤ 1) (fun (_ : Unit) (t : State) => ∃ (o_h4 : Nat → Int32) (o_h5 : Nat → Int32) (o_h6 : Nat → Int32), va_P (dC, dI) vwCl (wd_1ad5b18c h0 h1 h2 h3 h4 h5 h6 v0 v1 v2 h1 g0 f3 h2 g1 f4 h3 g2 f5 h4 g3 o_h4 h5 g4 o_h5 h6 g5 o_h6) t.heap ∧ va_K (dC, dI) vwCl [] t ∧ va_D (va_A (wd_1ad5b18c h0 h1 h2 h3 h4 h5 h6 v0 v1 v2 h1 g0 f3 h2 g1 f4 h3 g2 f5 h4 g3 f6 h5 g4 f7 h6 g5 f8) sz) (wd_1ad5b18c h0 h1 h2 h3 h4 h5 h6 v0 v1 v2 h1 g0 f3 h2 g1 f4 h3 g2 f5 h4 g3 o_h4 h5 g4 o_h5 h6 g5 o_h6)) (va_A (wd_1ad5b18c h0 h1 h2 h3 h4 h5 h6 v0 v1 v2 h1 g0 f3 h2 g1 f4 h3 g2 f5 h4 g3 f6 h5 g4 f7 h6 g5 f8) sz)) 0 0 (va_A (wd_1ad5b18c h0 h1 h2 h3 h4 h5 h6 v0 v1 v2 h1 g0 f3 h2 g1 f4 h3 g2 f5 h4 g3 f6 h5 g4 f7 h6 g5 f8) sz) := by
  refine Met.ofW (cc := cX8_place) (maxL := 5) (ret := (some .boolean)) (by decide) rfl ?_
  intro p e s m args below meth c s₁ B hml hv
  obtain ⟨i_v2a, i_v2b⟩ := i_v2
  obtain ⟨rfl, hsz, hP, hK, hD0⟩ := hv
  have hx := B.exec
  have hb := B.bytes
  have hr := B.returns
  have hts := atoms_spec (ws := q_X8_place_4) B.pre
  have hown : s.vm.findClass RX8 = some m.cls := findClass_of_methodNamed B.named
  have hlocks := B.notSynchronized
  subst hsz
  have hD := hD0.self (sz := s.heap.size)
  generalize hAe : va_A (wd_1ad5b18c h0 h1 h2 h3 h4 h5 h6 v0 v1 v2 h1 g0 f3 h2 g1 f4 h3 g2 f5 h4 g3 f6 h5 g4 f7 h6 g5 f8) s.heap.size = A at hD ⊢
  have hA : ∀ q : Nat, s.heap.size ≤ q → A q := fun q h => by rw [← hAe]; exact Or.inr h
  have hS : va_S A s.heap s.heap [] := va_S.rf
  generalize hQ : (MQ below _ _ s 0 0 A) = Q
  have hl := lv_entry ([.ref h0, .int 4, .int v9, .int v10]) (n := 5) (Nat.le_of_ble_eq_true rfl)
  rw [lg_entry_eq]
  generalize (lg_sl ([.ref h0, .int 4, .int v9, .int v10]) ++ List.replicate (5 - (lg_sl ([.ref h0, .int 4, .int v9, .int v10])).length) Slot.unset).toArray = ls at hl ⊢
  have hl : lv_has ls 5 [(0, .ref h0), (1, .int 4), (2, .int v9), (3, .int v10)] := hl
  obtain ⟨H, hH⟩ : ∃ H : Heap, H = s.heap := ⟨_, rfl⟩
  obtain ⟨locs, hlocs⟩ : ∃ y : List Loc, y = [] := ⟨_, rfl⟩
  have hS : va_S A s.heap H locs := by rw [hH, hlocs]; exact va_S.rf
  have hP : va_P (dC, dI) vwCl (wd_1ad5b18c h0 h1 h2 h3 h4 h5 h6 v0 v1 v2 h1 g0 f3 h2 g1 f4 h3 g2 f5 h4 g3 f6 h5 g4 f7 h6 g5 f8) H := by rw [hH]; exact hP
  rw [← hH, ← hlocs]
  refine lv_iload_n hx hb dX8_place_0 rfl (lv_at hl 1 rfl) ?_
  refine lv_if_lt (tgt := 18) hx hb dX8_place_1 (by decide) (fun c => absurd c (by decide)) (fun _ => ?_)
  refine lv_iload_n hx hb dX8_place_4 rfl (lv_at hl 1 rfl) ?_
  refine lv_aload_n hx hb dX8_place_5 rfl (lv_at hl 0 rfl) ?_
  refine va_get (D := (dC, dI)) (ci := 8) (v := .int v0) (C := RX8) (T := TX8) (N := 9) hx hb hts (fun _ h => List.mem_cons_of_mem _ (List.mem_append_right _ h)) hown hK hP 0 rfl rfl 6 (by decide) (hts (.fieldLink RX8 30 "LeftArguments$Rows" "bags" "I") (List.mem_cons_of_mem _ (List.mem_append_left _ (List.mem_of_getElem? (i := 0) rfl)))) (fun _ h9 => h9) rfl dX8_place_6 ?_
  refine lv_icmp_ge (tgt := 18) hx hb dX8_place_9 (by decide) (fun c1 => ?_) (fun c1 => ?_)
  · skip
    have fc1 : v0.toInt ≤ 4 := Int32.le_iff_toInt_le.mp c1
    refine lv_iconst (v := 1) hx hb dX8_place_18 (by decide) ?_
    subst hQ
    have hP9 := hP.sub (ws' := (wd_1ad5b18c h0 h1 h2 h3 h4 h5 h6 v0 v1 v2 h1 g0 f3 h2 g1 f4 h3 g2 f5 h4 g3 f6 h5 g4 f7 h6 g5 f8)) [0, 1, 2, 3, 4, 5, 6] rfl
    have hD9 := hD.sub (ws' := (wd_1ad5b18c h0 h1 h2 h3 h4 h5 h6 v0 v1 v2 h1 g0 f3 h2 g1 f4 h3 g2 f5 h4 g3 f6 h5 g4 f7 h6 g5 f8)) [0, 1, 2, 3, 4, 5, 6] (by decide) rfl
    have hK9 := hK.sub (tys' := []) [] rfl
    exact W.zret (v := 1) hx hb hr rfl (fun t ht hW => ⟨⟨1, (), rfl, ⟨by first | omega | decide, by first | omega | decide⟩, f6, f7, f8, by rw [ht]; exact hP9, va_K.moved hW.alike hK9, hD9⟩, hS.F ht⟩) hS.2.2 dX8_place_19
  · skip
    have fc1 : ¬ (v0.toInt ≤ 4) := fun h9 => c1 (Int32.le_iff_toInt_le.mpr h9)
    refine lv_iload_n hx hb dX8_place_12 rfl (lv_at hl 1 rfl) ?_
    refine lv_bipush (v := 8) hx hb dX8_place_13 (by decide) ?_
    refine lv_icmp_lt (tgt := 20) hx hb dX8_place_15 (by decide) (fun _ => ?_) (fun c => absurd (by decide) c)
    refine lv_iconst (v := 0) hx hb dX8_place_20 (by decide) ?_
    refine lv_istore (lv' := [(4, .int 0), (0, .ref h0), (1, .int 4), (2, .int v9), (3, .int v10)]) hx hb dX8_place_21 hl (by decide) rfl (fun ls hl => ?_)
    have hL22 : ∀ (n9 : Nat), ∀ (x14 : Int32) (fn15 : Nat → Int32) (fn16 : Nat → Int32) (fn17 : Nat → Int32) (H : Heap) (locs : List Loc) (ls : Array Slot), 0 ≤ x14.toInt → x14.toInt ≤ 8 → (8 - x14.toInt).toNat < n9 → va_P (dC, dI) vwCl (wd_1ad5b18c h0 h1 h2 h3 h4 h5 h6 v0 v1 v2 h1 g0 f3 h2 g1 f4 h3 g2 f5 h4 g3 fn15 h5 g4 fn16 h6 g5 fn17) H → va_D A (wd_1ad5b18c h0 h1 h2 h3 h4 h5 h6 v0 v1 v2 h1 g0 f3 h2 g1 f4 h3 g2 f5 h4 g3 fn15 h5 g4 fn16 h6 g5 fn17) → va_S A s.heap H locs → lv_has ls 5 [(4, .int x14), (0, .ref h0), (1, .int 4), (2, .int v9), (3, .int v10)] → W p l e ({ frames := 4, cells := 0, slots := 0, locals := 96 }) s m ([.ref h0, .int 4, .int v9, .int v10] : List Value).toArray below meth c H locs 0 0 Q (F0 m 23 ls []) := by
      intro n9
      induction n9 with
      | zero => intro x14 fn15 fn16 fn17 H locs ls qa_x14 qb_x14 hm9 hP hD hS hl; exact absurd hm9 (Nat.not_lt_zero _)
      | succ n9 ih_hL22 =>
        intro x14 fn15 fn16 fn17 H locs ls qa_x14 qb_x14 hm9 hP hD hS hl
        refine lv_iload hx hb dX8_place_23 (lv_at hl 0 rfl) ?_
        refine lv_iload_n hx hb dX8_place_25 rfl (lv_at hl 3 rfl) ?_
        refine lv_icmp_gt (tgt := 157) hx hb dX8_place_26 (by decide) (fun c23 => ?_) (fun c23 => ?_)
        · skip
          have fc23 : v9.toInt < x14.toInt := Int32.lt_iff_toInt_lt.mp c23
          have r1c23 := Int32.toInt_lt x14
          have r2c23 := Int32.toInt_lt v9
          have r3c23 := Int32.le_toInt x14
          have r4c23 := Int32.le_toInt v9
          refine lv_iconst (v := 0) hx hb dX8_place_157 (by decide) ?_
          subst hQ
          have hP9 := hP.sub (ws' := (wd_1ad5b18c h0 h1 h2 h3 h4 h5 h6 v0 v1 v2 h1 g0 f3 h2 g1 f4 h3 g2 f5 h4 g3 fn15 h5 g4 fn16 h6 g5 fn17)) [0, 1, 2, 3, 4, 5, 6] rfl
          have hD9 := hD.sub (ws' := (wd_1ad5b18c h0 h1 h2 h3 h4 h5 h6 v0 v1 v2 h1 g0 f3 h2 g1 f4 h3 g2 f5 h4 g3 fn15 h5 g4 fn16 h6 g5 fn17)) [0, 1, 2, 3, 4, 5, 6] (by decide) rfl
          have hK9 := hK.sub (tys' := []) [] rfl
          exact W.zret (v := 0) hx hb hr rfl (fun t ht hW => ⟨⟨0, (), rfl, ⟨by first | omega | decide, by first | omega | decide⟩, fn15, fn16, fn17, by rw [ht]; exact hP9, va_K.moved hW.alike hK9, hD9⟩, hS.F ht⟩) hS.2.2 dX8_place_158
        · skip
          have fc23 : ¬ (v9.toInt < x14.toInt) := fun h9 => c23 (Int32.lt_iff_toInt_lt.mpr h9)
          have r1c23 := Int32.toInt_lt x14
          have r2c23 := Int32.toInt_lt v9
          have r3c23 := Int32.le_toInt x14
          have r4c23 := Int32.le_toInt v9
          refine lv_iload hx hb dX8_place_29 (lv_at hl 0 rfl) ?_
          refine lv_iload_n hx hb dX8_place_31 rfl (lv_at hl 4 rfl) ?_
          refine lv_icmp_ge (tgt := 157) hx hb dX8_place_32 (by decide) (fun c24 => ?_) (fun c24 => ?_)
          · skip
            have fc24 : v10.toInt ≤ x14.toInt := Int32.le_iff_toInt_le.mp c24
            have r1c24 := Int32.toInt_lt x14
            have r2c24 := Int32.toInt_lt v10
            have r3c24 := Int32.le_toInt x14
            have r4c24 := Int32.le_toInt v10
            refine lv_iconst (v := 0) hx hb dX8_place_157 (by decide) ?_
            subst hQ
            have hP9 := hP.sub (ws' := (wd_1ad5b18c h0 h1 h2 h3 h4 h5 h6 v0 v1 v2 h1 g0 f3 h2 g1 f4 h3 g2 f5 h4 g3 fn15 h5 g4 fn16 h6 g5 fn17)) [0, 1, 2, 3, 4, 5, 6] rfl
            have hD9 := hD.sub (ws' := (wd_1ad5b18c h0 h1 h2 h3 h4 h5 h6 v0 v1 v2 h1 g0 f3 h2 g1 f4 h3 g2 f5 h4 g3 fn15 h5 g4 fn16 h6 g5 fn17)) [0, 1, 2, 3, 4, 5, 6] (by decide) rfl
            have hK9 := hK.sub (tys' := []) [] rfl
            exact W.zret (v := 0) hx hb hr rfl (fun t ht hW => ⟨⟨0, (), rfl, ⟨by first | omega | decide, by first | omega | decide⟩, fn15, fn16, fn17, by rw [ht]; exact hP9, va_K.moved hW.alike hK9, hD9⟩, hS.F ht⟩) hS.2.2 dX8_place_158
          · skip
            have fc24 : ¬ (v10.toInt ≤ x14.toInt) := fun h9 => c24 (Int32.le_iff_toInt_le.mpr h9)
            have r1c24 := Int32.toInt_lt x14
            have r2c24 := Int32.toInt_lt v10
            have r3c24 := Int32.le_toInt x14
            have r4c24 := Int32.le_toInt v10
            refine lv_iload hx hb dX8_place_35 (lv_at hl 0 rfl) ?_
            refine lv_bipush (v := 8) hx hb dX8_place_37 (by decide) ?_
            refine lv_icmp_ge (tgt := 157) hx hb dX8_place_39 (by decide) (fun c25 => ?_) (fun c25 => ?_)
            · skip
              have fc25 : 8 ≤ x14.toInt := Int32.le_iff_toInt_le.mp c25
              refine lv_iconst (v := 0) hx hb dX8_place_157 (by decide) ?_
              subst hQ
              have hP9 := hP.sub (ws' := (wd_1ad5b18c h0 h1 h2 h3 h4 h5 h6 v0 v1 v2 h1 g0 f3 h2 g1 f4 h3 g2 f5 h4 g3 fn15 h5 g4 fn16 h6 g5 fn17)) [0, 1, 2, 3, 4, 5, 6] rfl
              have hD9 := hD.sub (ws' := (wd_1ad5b18c h0 h1 h2 h3 h4 h5 h6 v0 v1 v2 h1 g0 f3 h2 g1 f4 h3 g2 f5 h4 g3 fn15 h5 g4 fn16 h6 g5 fn17)) [0, 1, 2, 3, 4, 5, 6] (by decide) rfl
              have hK9 := hK.sub (tys' := []) [] rfl
              exact W.zret (v := 0) hx hb hr rfl (fun t ht hW => ⟨⟨0, (), rfl, ⟨by first | omega | decide, by first | omega | decide⟩, fn15, fn16, fn17, by rw [ht]; exact hP9, va_K.moved hW.alike hK9, hD9⟩, hS.F ht⟩) hS.2.2 dX8_place_158
            · skip
              have fc25 : ¬ (8 ≤ x14.toInt) := fun h9 => c25 (Int32.le_iff_toInt_le.mpr h9)
              refine lv_aload_n hx hb dX8_place_42 rfl (lv_at hl 1 rfl) ?_
              refine lv_iload_n hx hb dX8_place_43 rfl (lv_at hl 2 rfl) ?_
              refine lv_iload hx hb dX8_place_44 (lv_at hl 0 rfl) ?_
              have hPc := hP.sub (ws' := (wd_62728821 h0 h1 h2 h3 h4 h5 h6 v0 v1 v2 h1 g0 f3 h2 g1 f4 h5 g4 fn16 h6 g5 fn17)) [0, 1, 2, 5, 6] rfl
              have hDc := hD.sub (ws' := (wd_62728821 h0 h1 h2 h3 h4 h5 h6 v0 v1 v2 h1 g0 f3 h2 g1 f4 h5 g4 fn16 h6 g5 fn17)) [0, 1, 2, 5, 6] (by decide) rfl
              have hKc := hK.sub (tys' := [(g0, .int), (g1, .int), (g4, .int), (g5, .int)]) [0, 1, 4, 5] rfl
              have hFc := va_free (wc := (wd_62728821 h0 h1 h2 h3 h4 h5 h6 v0 v1 v2 h1 g0 f3 h2 g1 f4 h5 g4 fn16 h6 g5 fn17)) hD hS hA [0, 1, 2, 5, 6] rfl
              refine va_calli (va_runV (As := [.int 4, .int x14]) (rest := []) ⟨hx, hb, hml, hown, hts⟩ (k_X8_standsWell l dC dI h0 h1 h2 h5 h6 h3 h4 v0 v1 v2 g0 f3 g1 f4 g4 fn16 g5 fn17 4 x14 ⟨i_v2a, i_v2b⟩ H.size) (cwV 2 hts g_X8_place_4_0 rfl rfl rfl (by decide +kernel) ⟨Nat.le_of_ble_eq_true rfl, Nat.le_of_ble_eq_true rfl⟩) (pv_PV8 hPc hKc hDc (q0 := 0) rfl) rfl rfl hl.1 rfl (lv_room (Nat.le_of_ble_eq_true rfl)) dX8_place_46 ⟨Nat.le_of_ble_eq_true rfl, Nat.le_of_ble_eq_true rfl⟩) hS (fun q _ h => hFc q h) hFc (fun ra26 u t H1 locs ht hvm hwra26 hB hz1 hk1 hS => ?_)
              obtain ⟨hP1, hK1, hD1⟩ := hB
              rw [ht] at hP1
              obtain ⟨hP2, hD2⟩ := va_join (wr := (wd_c3b6304c h3 g2 f5 h4 g3 fn15)) (w1 := (wd_62728821 h0 h1 h2 h3 h4 h5 h6 v0 v1 v2 h1 g0 f3 h2 g1 f4 h5 g4 fn16 h6 g5 fn17)) hP hD [0, 1, 2, 5, 6] [3, 4] rfl rfl (by decide) (by decide) hk1 hFc hP1 hD1
              clear hP hD hPc hDc hKc hFc hP1 hK1 hD1 hk1 hz1
              generalize H1 = H at hP2 hS ⊢
              have hP := hP2.sub (ws' := (wd_1ad5b18c h0 h1 h2 h3 h4 h5 h6 v0 v1 v2 h1 g0 f3 h2 g1 f4 h3 g2 f5 h4 g3 fn15 h5 g4 fn16 h6 g5 fn17)) [2, 3, 4, 0, 1, 5, 6] rfl
              have hD := hD2.sub (ws' := (wd_1ad5b18c h0 h1 h2 h3 h4 h5 h6 v0 v1 v2 h1 g0 f3 h2 g1 f4 h3 g2 f5 h4 g3 fn15 h5 g4 fn16 h6 g5 fn17)) [2, 3, 4, 0, 1, 5, 6] (by decide) rfl
              clear hP2 hD2
              obtain ⟨wa_ra26, wb_ra26⟩ := hwra26
              have wa_ra26 : 0 ≤ ra26.toInt := wa_ra26
              have wb_ra26 : ra26.toInt ≤ 1 := wb_ra26
              refine lv_if_eq (tgt := 151) hx hb dX8_place_49 (by decide) (fun c27 => ?_) (fun c27 => ?_)
              · skip
                have fc27 : ra26.toInt = 0 := congrArg Int32.toInt c27
                obtain ⟨t28, et28⟩ : ∃ y : Int32, y = x14 + 1 := ⟨_, rfl⟩
                have gt28 : t28.toInt = x14.toInt + (1) := pv_add (a := x14.toInt) (b := (1)) et28 rfl (by decide) (by omega) (by omega)
                refine lv_iinc (v := t28) (lv' := [(4, .int t28), (0, .ref h0), (1, .int 4), (2, .int v9), (3, .int v10)]) hx hb dX8_place_151 hl (k := 0) rfl (by rw [et28]; rfl) (by decide) rfl (fun ls hl => ?_)
                refine lv_goto (tgt := 23) hx hb dX8_place_154 (by decide) ?_
                exact ih_hL22 t28 fn15 fn16 fn17 H locs ls (by first | omega | decide) (by first | omega | decide) (by first | omega | (simp only [Int.toNat] at *; omega)) hP hD hS (lv_sub hl [0, 1, 2, 3, 4] rfl)
              · skip
                have fc27 : ¬ (ra26.toInt = 0) := fun h9 => c27 (Int32.toInt_inj.mp h9)
                refine lv_aload_n hx hb dX8_place_52 rfl (lv_at hl 1 rfl) ?_
                refine va_get (D := (dC, dI)) (ci := 8) (v := .ref h4) (C := RX8) (T := TX8) (N := 9) hx hb hts (fun _ h => List.mem_cons_of_mem _ (List.mem_append_right _ h)) hown hK hP 0 rfl rfl 3 (by decide) (hts (.fieldLink RX8 21 "LeftArguments$Rows" "chosen" "[I") (List.mem_cons_of_mem _ (List.mem_append_left _ (List.mem_of_getElem? (i := 12) rfl)))) (fun _ h9 => h9) rfl dX8_place_53 ?_
                refine lv_iload_n hx hb dX8_place_56 rfl (lv_at hl 2 rfl) ?_
                refine lv_iload hx hb dX8_place_57 (lv_at hl 0 rfl) ?_
                refine va_iast hx hb hK hP hD hS 4 3 rfl rfl (pv_c (x := 4) (n := 8) (by decide)) dX8_place_59 (fun H locs hP hD hS => ?_)
                obtain ⟨fn29, efn29⟩ : ∃ g : Nat → Int32, g = upd fn15 (Int32.toNatClampNeg 4) x14 := ⟨_, rfl⟩
                rw [← efn29] at hP hD
                have hP : va_P (dC, dI) vwCl (wd_1ad5b18c h0 h1 h2 h3 h4 h5 h6 v0 v1 v2 h1 g0 f3 h2 g1 f4 h3 g2 f5 h4 g3 fn29 h5 g4 fn16 h6 g5 fn17) H := hP
                have hD : va_D A (wd_1ad5b18c h0 h1 h2 h3 h4 h5 h6 v0 v1 v2 h1 g0 f3 h2 g1 f4 h3 g2 f5 h4 g3 fn29 h5 g4 fn16 h6 g5 fn17) := hD
                refine lv_aload_n hx hb dX8_place_60 rfl (lv_at hl 1 rfl) ?_
                refine va_get (D := (dC, dI)) (ci := 8) (v := .ref h5) (C := RX8) (T := TX8) (N := 9) hx hb hts (fun _ h => List.mem_cons_of_mem _ (List.mem_append_right _ h)) hown hK hP 0 rfl rfl 4 (by decide) (hts (.fieldLink RX8 24 "LeftArguments$Rows" "loads" "[I") (List.mem_cons_of_mem _ (List.mem_append_left _ (List.mem_of_getElem? (i := 5) rfl)))) (fun _ h9 => h9) rfl dX8_place_61 ?_
                refine lv_iload hx hb dX8_place_64 (lv_at hl 0 rfl) ?_
                refine lv_dup2_11 hx hb dX8_place_66 rfl rfl ?_
                refine va_iald hx hb hK hP 5 4 rfl rfl (vp_in_iff.mpr ⟨by omega, by omega⟩) dX8_place_67 ?_
                refine lv_topi (fun t30 et30 => ?_)
                refine lv_aload_n hx hb dX8_place_68 rfl (lv_at hl 1 rfl) ?_
                refine va_get (D := (dC, dI)) (ci := 8) (v := .ref h1) (C := RX8) (T := TX8) (N := 9) hx hb hts (fun _ h => List.mem_cons_of_mem _ (List.mem_append_right _ h)) hown hK hP 0 rfl rfl 0 (by decide) (hts (.fieldLink RX8 9 "LeftArguments$Rows" "sizes" "[I") (List.mem_cons_of_mem _ (List.mem_append_left _ (List.mem_of_getElem? (i := 6) rfl)))) (fun _ h9 => h9) rfl dX8_place_69 ?_
                refine lv_iload_n hx hb dX8_place_72 rfl (lv_at hl 2 rfl) ?_
                refine va_iald hx hb hK hP 1 0 rfl rfl (pv_c (x := 4) (n := 8) (by decide)) dX8_place_73 ?_
                refine lv_topi (fun t31 et31 => ?_)
                refine lv_iadd hx hb dX8_place_74 ?_
                refine lv_topi (fun t32 et32 => ?_)
                refine va_iast hx hb hK hP hD hS 5 4 rfl rfl (vp_in_iff.mpr ⟨by omega, by omega⟩) dX8_place_75 (fun H locs hP hD hS => ?_)
                obtain ⟨fn33, efn33⟩ : ∃ g : Nat → Int32, g = upd fn16 (Int32.toNatClampNeg x14) t32 := ⟨_, rfl⟩
                rw [← efn33] at hP hD
                have hP : va_P (dC, dI) vwCl (wd_1ad5b18c h0 h1 h2 h3 h4 h5 h6 v0 v1 v2 h1 g0 f3 h2 g1 f4 h3 g2 f5 h4 g3 fn29 h5 g4 fn33 h6 g5 fn17) H := hP
                have hD : va_D A (wd_1ad5b18c h0 h1 h2 h3 h4 h5 h6 v0 v1 v2 h1 g0 f3 h2 g1 f4 h3 g2 f5 h4 g3 fn29 h5 g4 fn33 h6 g5 fn17) := hD
                refine lv_aload_n hx hb dX8_place_76 rfl (lv_at hl 1 rfl) ?_
                refine va_get (D := (dC, dI)) (ci := 8) (v := .ref h6) (C := RX8) (T := TX8) (N := 9) hx hb hts (fun _ h => List.mem_cons_of_mem _ (List.mem_append_right _ h)) hown hK hP 0 rfl rfl 5 (by decide) (hts (.fieldLink RX8 27 "LeftArguments$Rows" "standing" "[I") (List.mem_cons_of_mem _ (List.mem_append_left _ (List.mem_of_getElem? (i := 3) rfl)))) (fun _ h9 => h9) rfl dX8_place_77 ?_
                refine lv_iload hx hb dX8_place_80 (lv_at hl 0 rfl) ?_
                refine lv_dup2_11 hx hb dX8_place_82 rfl rfl ?_
                refine va_iald hx hb hK hP 6 5 rfl rfl (vp_in_iff.mpr ⟨by omega, by omega⟩) dX8_place_83 ?_
                refine lv_topi (fun t34 et34 => ?_)
                refine lv_iconst (v := 1) hx hb dX8_place_84 (by decide) ?_
                refine lv_aload_n hx hb dX8_place_85 rfl (lv_at hl 1 rfl) ?_
                refine va_get (D := (dC, dI)) (ci := 8) (v := .ref h3) (C := RX8) (T := TX8) (N := 9) hx hb hts (fun _ h => List.mem_cons_of_mem _ (List.mem_append_right _ h)) hown hK hP 0 rfl rfl 2 (by decide) (hts (.fieldLink RX8 18 "LeftArguments$Rows" "places" "[I") (List.mem_cons_of_mem _ (List.mem_append_left _ (List.mem_of_getElem? (i := 13) rfl)))) (fun _ h9 => h9) rfl dX8_place_86 ?_
                refine lv_iload_n hx hb dX8_place_89 rfl (lv_at hl 2 rfl) ?_
                refine va_iald hx hb hK hP 3 2 rfl rfl (pv_c (x := 4) (n := 8) (by decide)) dX8_place_90 ?_
                refine lv_topi (fun t35 et35 => ?_)
                refine lv_ishl hx hb dX8_place_91 ?_
                refine lv_topi (fun t36 et36 => ?_)
                refine lv_ior hx hb dX8_place_92 ?_
                refine lv_topi (fun t37 et37 => ?_)
                refine va_iast hx hb hK hP hD hS 6 5 rfl rfl (vp_in_iff.mpr ⟨by omega, by omega⟩) dX8_place_93 (fun H locs hP hD hS => ?_)
                obtain ⟨fn38, efn38⟩ : ∃ g : Nat → Int32, g = upd fn17 (Int32.toNatClampNeg x14) t37 := ⟨_, rfl⟩
                rw [← efn38] at hP hD
                have hP : va_P (dC, dI) vwCl (wd_1ad5b18c h0 h1 h2 h3 h4 h5 h6 v0 v1 v2 h1 g0 f3 h2 g1 f4 h3 g2 f5 h4 g3 fn29 h5 g4 fn33 h6 g5 fn38) H := hP
                have hD : va_D A (wd_1ad5b18c h0 h1 h2 h3 h4 h5 h6 v0 v1 v2 h1 g0 f3 h2 g1 f4 h3 g2 f5 h4 g3 fn29 h5 g4 fn33 h6 g5 fn38) := hD
                refine lv_aload_n hx hb dX8_place_94 rfl (lv_at hl 1 rfl) ?_
                refine lv_iload_n hx hb dX8_place_95 rfl (lv_at hl 2 rfl) ?_
                refine lv_iconst (v := 1) hx hb dX8_place_96 (by decide) ?_
                refine lv_iadd hx hb dX8_place_97 ?_
                refine lv_topi (fun tv39 etv39 => ?_)
                obtain rfl : tv39 = (5 : Int32) := etv39.trans (by first | rfl | decide)
                refine lv_iload_n hx hb dX8_place_98 rfl (lv_at hl 3 rfl) ?_
                refine lv_iload hx hb dX8_place_99 (lv_at hl 0 rfl) ?_
                refine lv_iconst (v := 1) hx hb dX8_place_101 (by decide) ?_
                refine lv_iadd hx hb dX8_place_102 ?_
                refine lv_topi (fun t40 et40 => ?_)
                have gt40 : t40.toInt = x14.toInt + 1 := pv_add (a := x14.toInt) (b := 1) et40 rfl (by decide) (by omega) (by omega)
                refine va_mmax hx hb (by rw [hml]; exact hl.1.symm) hown (hts (.methodLink RX8 72 Lib.Math.max.name) (List.mem_cons_of_mem _ (List.mem_append_left _ (List.mem_of_getElem? (i := 14) rfl)))) (hts (.static Lib.Math.max.name) (List.mem_cons_of_mem _ (List.mem_append_left _ (List.mem_of_getElem? (i := 15) rfl)))) (hts (.initialized "java/lang/Math") (List.mem_cons_of_mem _ (List.mem_append_left _ (List.mem_of_getElem? (i := 16) rfl)))) (hts (.code Lib.Math.max.name Lib.Math.max.code 2 (some .int)) (List.mem_cons_of_mem _ (List.mem_append_left _ (List.mem_of_getElem? (i := 17) rfl)))) (Nat.le_of_ble_eq_true rfl) (Nat.le_of_ble_eq_true rfl) (Nat.le_of_ble_eq_true rfl) (Nat.le_of_ble_eq_true rfl) dX8_place_103 ?_
                refine lv_topi (fun t41 et41 => ?_)
                obtain ⟨gat41, gbt41, gct41⟩ := pv_max (a := v9.toInt) (b := t40.toInt) et41 rfl rfl
                refine lv_iload_n hx hb dX8_place_106 rfl (lv_at hl 4 rfl) ?_
                have hPc := hP.sub (ws' := (wd_1ad5b18c h0 h1 h2 h3 h4 h5 h6 v0 v1 v2 h1 g0 f3 h2 g1 f4 h3 g2 f5 h4 g3 fn29 h5 g4 fn33 h6 g5 fn38)) [0, 1, 2, 3, 4, 5, 6] rfl
                have hDc := hD.sub (ws' := (wd_1ad5b18c h0 h1 h2 h3 h4 h5 h6 v0 v1 v2 h1 g0 f3 h2 g1 f4 h3 g2 f5 h4 g3 fn29 h5 g4 fn33 h6 g5 fn38)) [0, 1, 2, 3, 4, 5, 6] (by decide) rfl
                have hKc := hK.sub (tys' := [(g0, .int), (g1, .int), (g2, .int), (g3, .int), (g4, .int), (g5, .int)]) [0, 1, 2, 3, 4, 5] rfl
                have hFc := va_free (wc := (wd_1ad5b18c h0 h1 h2 h3 h4 h5 h6 v0 v1 v2 h1 g0 f3 h2 g1 f4 h3 g2 f5 h4 g3 fn29 h5 g4 fn33 h6 g5 fn38)) hD hS hA [0, 1, 2, 3, 4, 5, 6] rfl
                refine va_calli (va_runV (As := [.int 5, .int t41, .int v10]) (rest := []) ⟨hx, hb, hml, hown, hts⟩ (k_X8_place_3 l dC dI h0 h1 h2 h3 h4 h5 h6 v0 v1 v2 g0 f3 g1 f4 g2 f5 g3 fn29 g4 fn33 g5 fn38 t41 v10 ⟨i_v2a, i_v2b⟩ H.size) (cwV 3 hts g_X8_place_4_1 rfl rfl rfl (by decide +kernel) ⟨Nat.le_of_ble_eq_true rfl, Nat.le_of_ble_eq_true rfl⟩) (pv_PV8 hPc hKc hDc (q0 := 0) rfl) rfl rfl hl.1 rfl (lv_room (Nat.le_of_ble_eq_true rfl)) dX8_place_107 ⟨Nat.le_of_ble_eq_true rfl, Nat.le_of_ble_eq_true rfl⟩) hS (fun q _ h => hFc q h) hFc (fun ra42 u t H1 locs ht hvm hwra42 hB hz1 hk1 hS => ?_)
                obtain ⟨fn43, fn44, fn45, hP1, hK1, hD1⟩ := hB
                rw [ht] at hP1
                obtain ⟨hP2, hD2⟩ := va_join (wr := []) (w1 := (wd_1ad5b18c h0 h1 h2 h3 h4 h5 h6 v0 v1 v2 h1 g0 f3 h2 g1 f4 h3 g2 f5 h4 g3 fn43 h5 g4 fn44 h6 g5 fn45)) hP hD [0, 1, 2, 3, 4, 5, 6] [] rfl rfl (by decide) (by decide) hk1 hFc hP1 hD1
                clear hP hD hPc hDc hKc hFc hP1 hK1 hD1 hk1 hz1
                generalize H1 = H at hP2 hS ⊢
                have hP : va_P (dC, dI) vwCl (wd_1ad5b18c h0 h1 h2 h3 h4 h5 h6 v0 v1 v2 h1 g0 f3 h2 g1 f4 h3 g2 f5 h4 g3 fn43 h5 g4 fn44 h6 g5 fn45) H := hP2
                have hD : va_D A (wd_1ad5b18c h0 h1 h2 h3 h4 h5 h6 v0 v1 v2 h1 g0 f3 h2 g1 f4 h3 g2 f5 h4 g3 fn43 h5 g4 fn44 h6 g5 fn45) := hD2
                clear hP2 hD2
                obtain ⟨wa_ra42, wb_ra42⟩ := hwra42
                have wa_ra42 : 0 ≤ ra42.toInt := wa_ra42
                have wb_ra42 : ra42.toInt ≤ 1 := wb_ra42
                refine lv_if_eq (tgt := 115) hx hb dX8_place_110 (by decide) (fun c46 => ?_) (fun c46 => ?_)
                · skip
                  have fc46 : ra42.toInt = 0 := congrArg Int32.toInt c46
                  refine lv_aload_n hx hb dX8_place_115 rfl (lv_at hl 1 rfl) ?_
                  refine va_get (D := (dC, dI)) (ci := 8) (v := .ref h5) (C := RX8) (T := TX8) (N := 9) hx hb hts (fun _ h => List.mem_cons_of_mem _ (List.mem_append_right _ h)) hown hK hP 0 rfl rfl 4 (by decide) (hts (.fieldLink RX8 24 "LeftArguments$Rows" "loads" "[I") (List.mem_cons_of_mem _ (List.mem_append_left _ (List.mem_of_getElem? (i := 5) rfl)))) (fun _ h9 => h9) rfl dX8_place_116 ?_
                  refine lv_iload hx hb dX8_place_119 (lv_at hl 0 rfl) ?_
                  refine lv_dup2_11 hx hb dX8_place_121 rfl rfl ?_
                  refine va_iald hx hb hK hP 5 4 rfl rfl (vp_in_iff.mpr ⟨by omega, by omega⟩) dX8_place_122 ?_
                  refine lv_topi (fun t47 et47 => ?_)
                  refine lv_aload_n hx hb dX8_place_123 rfl (lv_at hl 1 rfl) ?_
                  refine va_get (D := (dC, dI)) (ci := 8) (v := .ref h1) (C := RX8) (T := TX8) (N := 9) hx hb hts (fun _ h => List.mem_cons_of_mem _ (List.mem_append_right _ h)) hown hK hP 0 rfl rfl 0 (by decide) (hts (.fieldLink RX8 9 "LeftArguments$Rows" "sizes" "[I") (List.mem_cons_of_mem _ (List.mem_append_left _ (List.mem_of_getElem? (i := 6) rfl)))) (fun _ h9 => h9) rfl dX8_place_124 ?_
                  refine lv_iload_n hx hb dX8_place_127 rfl (lv_at hl 2 rfl) ?_
                  refine va_iald hx hb hK hP 1 0 rfl rfl (pv_c (x := 4) (n := 8) (by decide)) dX8_place_128 ?_
                  refine lv_topi (fun t48 et48 => ?_)
                  refine lv_isub hx hb dX8_place_129 ?_
                  refine lv_topi (fun t49 et49 => ?_)
                  refine va_iast hx hb hK hP hD hS 5 4 rfl rfl (vp_in_iff.mpr ⟨by omega, by omega⟩) dX8_place_130 (fun H locs hP hD hS => ?_)
                  obtain ⟨fn50, efn50⟩ : ∃ g : Nat → Int32, g = upd fn44 (Int32.toNatClampNeg x14) t49 := ⟨_, rfl⟩
                  rw [← efn50] at hP hD
                  have hP : va_P (dC, dI) vwCl (wd_1ad5b18c h0 h1 h2 h3 h4 h5 h6 v0 v1 v2 h1 g0 f3 h2 g1 f4 h3 g2 f5 h4 g3 fn43 h5 g4 fn50 h6 g5 fn45) H := hP
                  have hD : va_D A (wd_1ad5b18c h0 h1 h2 h3 h4 h5 h6 v0 v1 v2 h1 g0 f3 h2 g1 f4 h3 g2 f5 h4 g3 fn43 h5 g4 fn50 h6 g5 fn45) := hD
                  refine lv_aload_n hx hb dX8_place_131 rfl (lv_at hl 1 rfl) ?_
                  refine va_get (D := (dC, dI)) (ci := 8) (v := .ref h6) (C := RX8) (T := TX8) (N := 9) hx hb hts (fun _ h => List.mem_cons_of_mem _ (List.mem_append_right _ h)) hown hK hP 0 rfl rfl 5 (by decide) (hts (.fieldLink RX8 27 "LeftArguments$Rows" "standing" "[I") (List.mem_cons_of_mem _ (List.mem_append_left _ (List.mem_of_getElem? (i := 3) rfl)))) (fun _ h9 => h9) rfl dX8_place_132 ?_
                  refine lv_iload hx hb dX8_place_135 (lv_at hl 0 rfl) ?_
                  refine lv_dup2_11 hx hb dX8_place_137 rfl rfl ?_
                  refine va_iald hx hb hK hP 6 5 rfl rfl (vp_in_iff.mpr ⟨by omega, by omega⟩) dX8_place_138 ?_
                  refine lv_topi (fun t51 et51 => ?_)
                  refine lv_iconst (v := 1) hx hb dX8_place_139 (by decide) ?_
                  refine lv_aload_n hx hb dX8_place_140 rfl (lv_at hl 1 rfl) ?_
                  refine va_get (D := (dC, dI)) (ci := 8) (v := .ref h3) (C := RX8) (T := TX8) (N := 9) hx hb hts (fun _ h => List.mem_cons_of_mem _ (List.mem_append_right _ h)) hown hK hP 0 rfl rfl 2 (by decide) (hts (.fieldLink RX8 18 "LeftArguments$Rows" "places" "[I") (List.mem_cons_of_mem _ (List.mem_append_left _ (List.mem_of_getElem? (i := 13) rfl)))) (fun _ h9 => h9) rfl dX8_place_141 ?_
                  refine lv_iload_n hx hb dX8_place_144 rfl (lv_at hl 2 rfl) ?_
                  refine va_iald hx hb hK hP 3 2 rfl rfl (pv_c (x := 4) (n := 8) (by decide)) dX8_place_145 ?_
                  refine lv_topi (fun t52 et52 => ?_)
                  refine lv_ishl hx hb dX8_place_146 ?_
                  refine lv_topi (fun t53 et53 => ?_)
                  refine lv_iconst (v := (-1)) hx hb dX8_place_147 (by decide) ?_
                  refine lv_ixor hx hb dX8_place_148 ?_
                  refine lv_topi (fun t54 et54 => ?_)
                  refine lv_iand hx hb dX8_place_149 ?_
                  refine lv_topi (fun t55 et55 => ?_)
                  refine va_iast hx hb hK hP hD hS 6 5 rfl rfl (vp_in_iff.mpr ⟨by omega, by omega⟩) dX8_place_150 (fun H locs hP hD hS => ?_)
                  obtain ⟨fn56, efn56⟩ : ∃ g : Nat → Int32, g = upd fn45 (Int32.toNatClampNeg x14) t55 := ⟨_, rfl⟩
                  rw [← efn56] at hP hD
                  have hP : va_P (dC, dI) vwCl (wd_1ad5b18c h0 h1 h2 h3 h4 h5 h6 v0 v1 v2 h1 g0 f3 h2 g1 f4 h3 g2 f5 h4 g3 fn43 h5 g4 fn50 h6 g5 fn56) H := hP
                  have hD : va_D A (wd_1ad5b18c h0 h1 h2 h3 h4 h5 h6 v0 v1 v2 h1 g0 f3 h2 g1 f4 h3 g2 f5 h4 g3 fn43 h5 g4 fn50 h6 g5 fn56) := hD
                  obtain ⟨t57, et57⟩ : ∃ y : Int32, y = x14 + 1 := ⟨_, rfl⟩
                  have gt57 : t57.toInt = x14.toInt + (1) := pv_add (a := x14.toInt) (b := (1)) et57 rfl (by decide) (by omega) (by omega)
                  refine lv_iinc (v := t57) (lv' := [(4, .int t57), (0, .ref h0), (1, .int 4), (2, .int v9), (3, .int v10)]) hx hb dX8_place_151 hl (k := 0) rfl (by rw [et57]; rfl) (by decide) rfl (fun ls hl => ?_)
                  refine lv_goto (tgt := 23) hx hb dX8_place_154 (by decide) ?_
                  exact ih_hL22 t57 fn43 fn50 fn56 H locs ls (by first | omega | decide) (by first | omega | decide) (by first | omega | (simp only [Int.toNat] at *; omega)) hP hD hS (lv_sub hl [0, 1, 2, 3, 4] rfl)
                · skip
                  have fc46 : ¬ (ra42.toInt = 0) := fun h9 => c46 (Int32.toInt_inj.mp h9)
                  refine lv_iconst (v := 1) hx hb dX8_place_113 (by decide) ?_
                  subst hQ
                  have hP9 := hP.sub (ws' := (wd_1ad5b18c h0 h1 h2 h3 h4 h5 h6 v0 v1 v2 h1 g0 f3 h2 g1 f4 h3 g2 f5 h4 g3 fn43 h5 g4 fn44 h6 g5 fn45)) [0, 1, 2, 3, 4, 5, 6] rfl
                  have hD9 := hD.sub (ws' := (wd_1ad5b18c h0 h1 h2 h3 h4 h5 h6 v0 v1 v2 h1 g0 f3 h2 g1 f4 h3 g2 f5 h4 g3 fn43 h5 g4 fn44 h6 g5 fn45)) [0, 1, 2, 3, 4, 5, 6] (by decide) rfl
                  have hK9 := hK.sub (tys' := []) [] rfl
                  exact W.zret (v := 1) hx hb hr rfl (fun t ht hW => ⟨⟨1, (), rfl, ⟨by first | omega | decide, by first | omega | decide⟩, fn43, fn44, fn45, by rw [ht]; exact hP9, va_K.moved hW.alike hK9, hD9⟩, hS.F ht⟩) hS.2.2 dX8_place_114
    exact hL22 _ 0 f6 f7 f8 H locs ls (by decide) (by decide) (Nat.lt_succ_self _) hP hD hS (lv_sub hl [0, 1, 2, 3, 4] rfl)
def q_X8_place_5 : List Cond := .code yX8_place cX8_place 5 (some .boolean) :: (([.fieldLink RX8 30 "LeftArguments$Rows" "bags" "I", .code yX8_standsWell cX8_standsWell 3 (some .boolean), .fieldLink RX8 37 "LeftArguments$Rows" "byRoom" "Z", .fieldLink RX8 27 "LeftArguments$Rows" "standing" "[I", .fieldLink RX8 15 "LeftArguments$Rows" "circles" "[I", .fieldLink RX8 24 "LeftArguments$Rows" "loads" "[I", .fieldLink RX8 9 "LeftArguments$Rows" "sizes" "[I", .fieldLink RX8 34 "LeftArguments$Rows" "wide" "I", .initialized RX8, .instanceMethod yX8_standsWell, .selects RX8 yX8_standsWell yX8_standsWell, .methodLink RX8 68 yX8_standsWell, .fieldLink RX8 21 "LeftArguments$Rows" "chosen" "[I", .fieldLink RX8 18 "LeftArguments$Rows" "places" "[I", .methodLink RX8 72 Lib.Math.max.name, .static Lib.Math.max.name, .initialized "java/lang/Math", .code Lib.Math.max.name Lib.Math.max.code 2 (some .int), .code yX8_place cX8_place 5 (some .boolean), .instanceMethod yX8_place, .selects RX8 yX8_place yX8_place, .methodLink RX8 64 yX8_place] : List Cond) ++ wsX80)
set_option maxRecDepth 20000 in
theorem g_X8_place_5_0 : GoodIn q_X8_place_5 (wsV RX8 68 RX8 yX8_standsWell q_X8_standsWell) := goodIn_app (goodIn_r _ [12, 10, 11, 9] rfl (by decide +kernel)) (goodIn_ca (goodIn_r (.code yX8_standsWell cX8_standsWell 3 (some .boolean) :: [.fieldLink RX8 37 "LeftArguments$Rows" "byRoom" "Z", .fieldLink RX8 27 "LeftArguments$Rows" "standing" "[I", .fieldLink RX8 15 "LeftArguments$Rows" "circles" "[I", .fieldLink RX8 24 "LeftArguments$Rows" "loads" "[I", .fieldLink RX8 9 "LeftArguments$Rows" "sizes" "[I", .fieldLink RX8 34 "LeftArguments$Rows" "wide" "I"]) [2, 3, 4, 5, 6, 7, 8] rfl (by decide +kernel)) (goodIn_sub (fun _ h => List.mem_cons_of_mem _ (List.mem_append_right _ h)) gwX8))
set_option maxRecDepth 20000 in
theorem g_X8_place_5_1 : GoodIn q_X8_place_5 (wsV RX8 64 RX8 yX8_place q_X8_place_4) := goodIn_app (goodIn_r _ [22, 20, 21, 9] rfl (by decide +kernel)) (goodIn_ca (goodIn_r (.code yX8_place cX8_place 5 (some .boolean) :: [.fieldLink RX8 30 "LeftArguments$Rows" "bags" "I", .code yX8_standsWell cX8_standsWell 3 (some .boolean), .fieldLink RX8 37 "LeftArguments$Rows" "byRoom" "Z", .fieldLink RX8 27 "LeftArguments$Rows" "standing" "[I", .fieldLink RX8 15 "LeftArguments$Rows" "circles" "[I", .fieldLink RX8 24 "LeftArguments$Rows" "loads" "[I", .fieldLink RX8 9 "LeftArguments$Rows" "sizes" "[I", .fieldLink RX8 34 "LeftArguments$Rows" "wide" "I", .initialized RX8, .instanceMethod yX8_standsWell, .selects RX8 yX8_standsWell yX8_standsWell, .methodLink RX8 68 yX8_standsWell, .fieldLink RX8 21 "LeftArguments$Rows" "chosen" "[I", .fieldLink RX8 18 "LeftArguments$Rows" "places" "[I", .methodLink RX8 72 Lib.Math.max.name, .static Lib.Math.max.name, .initialized "java/lang/Math", .code Lib.Math.max.name Lib.Math.max.code 2 (some .int), .code yX8_place cX8_place 5 (some .boolean), .instanceMethod yX8_place, .selects RX8 yX8_place yX8_place, .methodLink RX8 64 yX8_place]) [19, 1, 2, 3, 4, 5, 6, 7, 8, 9, 10, 11, 12, 13, 14, 15, 16, 17, 18, 19, 20, 21, 22] rfl (by decide +kernel)) (goodIn_sub (fun _ h => List.mem_cons_of_mem _ (List.mem_append_right _ h)) gwX8))
set_option maxHeartbeats 4000000 in
set_option maxRecDepth 100000 in
theorem k_X8_place_5 (l : Launch) (dC : Nat → ClassId) (dI : Nat → Nat → Nat) (h0 : Nat) (h1 : Nat) (h2 : Nat) (h3 : Nat) (h4 : Nat) (h5 : Nat) (h6 : Nat) (v0 : Int32) (v1 : Int32) (v2 : Int32) (g0 : ClassId) (f3 : Nat → Int32) (g1 : ClassId) (f4 : Nat → Int32) (g2 : ClassId) (f5 : Nat → Int32) (g3 : ClassId) (f6 : Nat → Int32) (g4 : ClassId) (f7 : Nat → Int32) (g5 : ClassId) (f8 : Nat → Int32) (v9 : Int32) (v10 : Int32) (i_v2 : 0 ≤ v2.toInt ∧ v2.toInt ≤ 1) (sz : Nat) : Met l yX8_place q_X8_place_5 ({ frames := 5, cells := 0, slots := 0, locals := 120 }) (va_Pc [.ref h0, .int 3, .int v9, .int v10] (fun U => U.heap.size = sz ∧ va_P (dC, dI) vwCl (wd_1ad5b18c h0 h1 h2 h3 h4 h5 h6 v0 v1 v2 h1 g0 f3 h2 g1 f4 h3 g2 f5 h4 g3 f6 h5 g4 f7 h6 g5 f8) U.heap ∧ va_K (dC, dI) vwCl [(g0, .int), (g1, .int), (g2, .int), (g3, .int), (g4, .int), (g5, .int)] U ∧ va_D (fun _ => True) (wd_1ad5b18c h0 h1 h2 h3 h4 h5 h6 v0 v1 v2 h1 g0 f3 h2 g1 f4 h3 g2 f5 h4 g3 f6 h5 g4 f7 h6 g5 f8))) (va_Qi (fun (r : Int32) (_ : Unit) => 0 ≤ r.toInt ∧ r.toInt ≤ 1) (fun (_ : Unit) (t : State) => ∃ (o_h4 : Nat → Int32) (o_h5 : Nat → Int32) (o_h6 : Nat → Int32), va_P (dC, dI) vwCl (wd_1ad5b18c h0 h1 h2 h3 h4 h5 h6 v0 v1 v2 h1 g0 f3 h2 g1 f4 h3 g2 f5 h4 g3 o_h4 h5 g4 o_h5 h6 g5 o_h6) t.heap ∧ va_K (dC, dI) vwCl [] t ∧ va_D (va_A (wd_1ad5b18c h0 h1 h2 h3 h4 h5 h6 v0 v1 v2 h1 g0 f3 h2 g1 f4 h3 g2 f5 h4 g3 f6 h5 g4 f7 h6 g5 f8) sz) (wd_1ad5b18c h0 h1 h2 h3 h4 h5 h6 v0 v1 v2 h1 g0 f3 h2 g1 f4 h3 g2 f5 h4 g3 o_h4 h5 g4 o_h5 h6 g5 o_h6)) (va_A (wd_1ad5b18c h0 h1 h2 h3 h4 h5 h6 v0 v1 v2 h1 g0 f3 h2 g1 f4 h3 g2 f5 h4 g3 f6 h5 g4 f7 h6 g5 f8) sz)) 0 0 (va_A (wd_1ad5b18c h0 h1 h2 h3 h4 h5 h6 v0 v1 v2 h1 g0 f3 h2 g1 f4 h3 g2 f5 h4 g3 f6 h5 g4 f7 h6 g5 f8) sz) := by
  refine Met.ofW (cc := cX8_place) (maxL := 5) (ret := (some .boolean)) (by decide) rfl ?_
  intro p e s m args below meth c s₁ B hml hv
  obtain ⟨i_v2a, i_v2b⟩ := i_v2
  obtain ⟨rfl, hsz, hP, hK, hD0⟩ := hv
  have hx := B.exec
  have hb := B.bytes
  have hr := B.returns
  have hts := atoms_spec (ws := q_X8_place_5) B.pre
  have hown : s.vm.findClass RX8 = some m.cls := findClass_of_methodNamed B.named
  have hlocks := B.notSynchronized
  subst hsz
  have hD := hD0.self (sz := s.heap.size)
  generalize hAe : va_A (wd_1ad5b18c h0 h1 h2 h3 h4 h5 h6 v0 v1 v2 h1 g0 f3 h2 g1 f4 h3 g2 f5 h4 g3 f6 h5 g4 f7 h6 g5 f8) s.heap.size = A at hD ⊢
  have hA : ∀ q : Nat, s.heap.size ≤ q → A q := fun q h => by rw [← hAe]; exact Or.inr h
  have hS : va_S A s.heap s.heap [] := va_S.rf
  generalize hQ : (MQ below _ _ s 0 0 A) = Q
  have hl := lv_entry ([.ref h0, .int 3, .int v9, .int v10]) (n := 5) (Nat.le_of_ble_eq_true rfl)
  rw [lg_entry_eq]
  generalize (lg_sl ([.ref h0, .int 3, .int v9, .int v10]) ++ List.replicate (5 - (lg_sl ([.ref h0, .int 3, .int v9, .int v10])).length) Slot.unset).toArray = ls at hl ⊢
  have hl : lv_has ls 5 [(0, .ref h0), (1, .int 3), (2, .int v9), (3, .int v10)] := hl
  obtain ⟨H, hH⟩ : ∃ H : Heap, H = s.heap := ⟨_, rfl⟩
  obtain ⟨locs, hlocs⟩ : ∃ y : List Loc, y = [] := ⟨_, rfl⟩
  have hS : va_S A s.heap H locs := by rw [hH, hlocs]; exact va_S.rf
  have hP : va_P (dC, dI) vwCl (wd_1ad5b18c h0 h1 h2 h3 h4 h5 h6 v0 v1 v2 h1 g0 f3 h2 g1 f4 h3 g2 f5 h4 g3 f6 h5 g4 f7 h6 g5 f8) H := by rw [hH]; exact hP
  rw [← hH, ← hlocs]
  refine lv_iload_n hx hb dX8_place_0 rfl (lv_at hl 1 rfl) ?_
  refine lv_if_lt (tgt := 18) hx hb dX8_place_1 (by decide) (fun c => absurd c (by decide)) (fun _ => ?_)
  refine lv_iload_n hx hb dX8_place_4 rfl (lv_at hl 1 rfl) ?_
  refine lv_aload_n hx hb dX8_place_5 rfl (lv_at hl 0 rfl) ?_
  refine va_get (D := (dC, dI)) (ci := 8) (v := .int v0) (C := RX8) (T := TX8) (N := 9) hx hb hts (fun _ h => List.mem_cons_of_mem _ (List.mem_append_right _ h)) hown hK hP 0 rfl rfl 6 (by decide) (hts (.fieldLink RX8 30 "LeftArguments$Rows" "bags" "I") (List.mem_cons_of_mem _ (List.mem_append_left _ (List.mem_of_getElem? (i := 0) rfl)))) (fun _ h9 => h9) rfl dX8_place_6 ?_
  refine lv_icmp_ge (tgt := 18) hx hb dX8_place_9 (by decide) (fun c1 => ?_) (fun c1 => ?_)
  · skip
    have fc1 : v0.toInt ≤ 3 := Int32.le_iff_toInt_le.mp c1
    refine lv_iconst (v := 1) hx hb dX8_place_18 (by decide) ?_
    subst hQ
    have hP9 := hP.sub (ws' := (wd_1ad5b18c h0 h1 h2 h3 h4 h5 h6 v0 v1 v2 h1 g0 f3 h2 g1 f4 h3 g2 f5 h4 g3 f6 h5 g4 f7 h6 g5 f8)) [0, 1, 2, 3, 4, 5, 6] rfl
    have hD9 := hD.sub (ws' := (wd_1ad5b18c h0 h1 h2 h3 h4 h5 h6 v0 v1 v2 h1 g0 f3 h2 g1 f4 h3 g2 f5 h4 g3 f6 h5 g4 f7 h6 g5 f8)) [0, 1, 2, 3, 4, 5, 6] (by decide) rfl
    have hK9 := hK.sub (tys' := []) [] rfl
    exact W.zret (v := 1) hx hb hr rfl (fun t ht hW => ⟨⟨1, (), rfl, ⟨by first | omega | decide, by first | omega | decide⟩, f6, f7, f8, by rw [ht]; exact hP9, va_K.moved hW.alike hK9, hD9⟩, hS.F ht⟩) hS.2.2 dX8_place_19
  · skip
    have fc1 : ¬ (v0.toInt ≤ 3) := fun h9 => c1 (Int32.le_iff_toInt_le.mpr h9)
    refine lv_iload_n hx hb dX8_place_12 rfl (lv_at hl 1 rfl) ?_
    refine lv_bipush (v := 8) hx hb dX8_place_13 (by decide) ?_
    refine lv_icmp_lt (tgt := 20) hx hb dX8_place_15 (by decide) (fun _ => ?_) (fun c => absurd (by decide) c)
    refine lv_iconst (v := 0) hx hb dX8_place_20 (by decide) ?_
    refine lv_istore (lv' := [(4, .int 0), (0, .ref h0), (1, .int 3), (2, .int v9), (3, .int v10)]) hx hb dX8_place_21 hl (by decide) rfl (fun ls hl => ?_)
    have hL22 : ∀ (n9 : Nat), ∀ (x14 : Int32) (fn15 : Nat → Int32) (fn16 : Nat → Int32) (fn17 : Nat → Int32) (H : Heap) (locs : List Loc) (ls : Array Slot), 0 ≤ x14.toInt → x14.toInt ≤ 8 → (8 - x14.toInt).toNat < n9 → va_P (dC, dI) vwCl (wd_1ad5b18c h0 h1 h2 h3 h4 h5 h6 v0 v1 v2 h1 g0 f3 h2 g1 f4 h3 g2 f5 h4 g3 fn15 h5 g4 fn16 h6 g5 fn17) H → va_D A (wd_1ad5b18c h0 h1 h2 h3 h4 h5 h6 v0 v1 v2 h1 g0 f3 h2 g1 f4 h3 g2 f5 h4 g3 fn15 h5 g4 fn16 h6 g5 fn17) → va_S A s.heap H locs → lv_has ls 5 [(4, .int x14), (0, .ref h0), (1, .int 3), (2, .int v9), (3, .int v10)] → W p l e ({ frames := 5, cells := 0, slots := 0, locals := 120 }) s m ([.ref h0, .int 3, .int v9, .int v10] : List Value).toArray below meth c H locs 0 0 Q (F0 m 23 ls []) := by
      intro n9
      induction n9 with
      | zero => intro x14 fn15 fn16 fn17 H locs ls qa_x14 qb_x14 hm9 hP hD hS hl; exact absurd hm9 (Nat.not_lt_zero _)
      | succ n9 ih_hL22 =>
        intro x14 fn15 fn16 fn17 H locs ls qa_x14 qb_x14 hm9 hP hD hS hl
        refine lv_iload hx hb dX8_place_23 (lv_at hl 0 rfl) ?_
        refine lv_iload_n hx hb dX8_place_25 rfl (lv_at hl 3 rfl) ?_
        refine lv_icmp_gt (tgt := 157) hx hb dX8_place_26 (by decide) (fun c23 => ?_) (fun c23 => ?_)
        · skip
          have fc23 : v9.toInt < x14.toInt := Int32.lt_iff_toInt_lt.mp c23
          have r1c23 := Int32.toInt_lt x14
          have r2c23 := Int32.toInt_lt v9
          have r3c23 := Int32.le_toInt x14
          have r4c23 := Int32.le_toInt v9
          refine lv_iconst (v := 0) hx hb dX8_place_157 (by decide) ?_
          subst hQ
          have hP9 := hP.sub (ws' := (wd_1ad5b18c h0 h1 h2 h3 h4 h5 h6 v0 v1 v2 h1 g0 f3 h2 g1 f4 h3 g2 f5 h4 g3 fn15 h5 g4 fn16 h6 g5 fn17)) [0, 1, 2, 3, 4, 5, 6] rfl
          have hD9 := hD.sub (ws' := (wd_1ad5b18c h0 h1 h2 h3 h4 h5 h6 v0 v1 v2 h1 g0 f3 h2 g1 f4 h3 g2 f5 h4 g3 fn15 h5 g4 fn16 h6 g5 fn17)) [0, 1, 2, 3, 4, 5, 6] (by decide) rfl
          have hK9 := hK.sub (tys' := []) [] rfl
          exact W.zret (v := 0) hx hb hr rfl (fun t ht hW => ⟨⟨0, (), rfl, ⟨by first | omega | decide, by first | omega | decide⟩, fn15, fn16, fn17, by rw [ht]; exact hP9, va_K.moved hW.alike hK9, hD9⟩, hS.F ht⟩) hS.2.2 dX8_place_158
        · skip
          have fc23 : ¬ (v9.toInt < x14.toInt) := fun h9 => c23 (Int32.lt_iff_toInt_lt.mpr h9)
          have r1c23 := Int32.toInt_lt x14
          have r2c23 := Int32.toInt_lt v9
          have r3c23 := Int32.le_toInt x14
          have r4c23 := Int32.le_toInt v9
          refine lv_iload hx hb dX8_place_29 (lv_at hl 0 rfl) ?_
          refine lv_iload_n hx hb dX8_place_31 rfl (lv_at hl 4 rfl) ?_
          refine lv_icmp_ge (tgt := 157) hx hb dX8_place_32 (by decide) (fun c24 => ?_) (fun c24 => ?_)
          · skip
            have fc24 : v10.toInt ≤ x14.toInt := Int32.le_iff_toInt_le.mp c24
            have r1c24 := Int32.toInt_lt x14
            have r2c24 := Int32.toInt_lt v10
            have r3c24 := Int32.le_toInt x14
            have r4c24 := Int32.le_toInt v10
            refine lv_iconst (v := 0) hx hb dX8_place_157 (by decide) ?_
            subst hQ
            have hP9 := hP.sub (ws' := (wd_1ad5b18c h0 h1 h2 h3 h4 h5 h6 v0 v1 v2 h1 g0 f3 h2 g1 f4 h3 g2 f5 h4 g3 fn15 h5 g4 fn16 h6 g5 fn17)) [0, 1, 2, 3, 4, 5, 6] rfl
            have hD9 := hD.sub (ws' := (wd_1ad5b18c h0 h1 h2 h3 h4 h5 h6 v0 v1 v2 h1 g0 f3 h2 g1 f4 h3 g2 f5 h4 g3 fn15 h5 g4 fn16 h6 g5 fn17)) [0, 1, 2, 3, 4, 5, 6] (by decide) rfl
            have hK9 := hK.sub (tys' := []) [] rfl
            exact W.zret (v := 0) hx hb hr rfl (fun t ht hW => ⟨⟨0, (), rfl, ⟨by first | omega | decide, by first | omega | decide⟩, fn15, fn16, fn17, by rw [ht]; exact hP9, va_K.moved hW.alike hK9, hD9⟩, hS.F ht⟩) hS.2.2 dX8_place_158
          · skip
            have fc24 : ¬ (v10.toInt ≤ x14.toInt) := fun h9 => c24 (Int32.le_iff_toInt_le.mpr h9)
            have r1c24 := Int32.toInt_lt x14
            have r2c24 := Int32.toInt_lt v10
            have r3c24 := Int32.le_toInt x14
            have r4c24 := Int32.le_toInt v10
            refine lv_iload hx hb dX8_place_35 (lv_at hl 0 rfl) ?_
            refine lv_bipush (v := 8) hx hb dX8_place_37 (by decide) ?_
            refine lv_icmp_ge (tgt := 157) hx hb dX8_place_39 (by decide) (fun c25 => ?_) (fun c25 => ?_)
            · skip
              have fc25 : 8 ≤ x14.toInt := Int32.le_iff_toInt_le.mp c25
              refine lv_iconst (v := 0) hx hb dX8_place_157 (by decide) ?_
              subst hQ
              have hP9 := hP.sub (ws' := (wd_1ad5b18c h0 h1 h2 h3 h4 h5 h6 v0 v1 v2 h1 g0 f3 h2 g1 f4 h3 g2 f5 h4 g3 fn15 h5 g4 fn16 h6 g5 fn17)) [0, 1, 2, 3, 4, 5, 6] rfl
              have hD9 := hD.sub (ws' := (wd_1ad5b18c h0 h1 h2 h3 h4 h5 h6 v0 v1 v2 h1 g0 f3 h2 g1 f4 h3 g2 f5 h4 g3 fn15 h5 g4 fn16 h6 g5 fn17)) [0, 1, 2, 3, 4, 5, 6] (by decide) rfl
              have hK9 := hK.sub (tys' := []) [] rfl
              exact W.zret (v := 0) hx hb hr rfl (fun t ht hW => ⟨⟨0, (), rfl, ⟨by first | omega | decide, by first | omega | decide⟩, fn15, fn16, fn17, by rw [ht]; exact hP9, va_K.moved hW.alike hK9, hD9⟩, hS.F ht⟩) hS.2.2 dX8_place_158
            · skip
              have fc25 : ¬ (8 ≤ x14.toInt) := fun h9 => c25 (Int32.le_iff_toInt_le.mpr h9)
              refine lv_aload_n hx hb dX8_place_42 rfl (lv_at hl 1 rfl) ?_
              refine lv_iload_n hx hb dX8_place_43 rfl (lv_at hl 2 rfl) ?_
              refine lv_iload hx hb dX8_place_44 (lv_at hl 0 rfl) ?_
              have hPc := hP.sub (ws' := (wd_62728821 h0 h1 h2 h3 h4 h5 h6 v0 v1 v2 h1 g0 f3 h2 g1 f4 h5 g4 fn16 h6 g5 fn17)) [0, 1, 2, 5, 6] rfl
              have hDc := hD.sub (ws' := (wd_62728821 h0 h1 h2 h3 h4 h5 h6 v0 v1 v2 h1 g0 f3 h2 g1 f4 h5 g4 fn16 h6 g5 fn17)) [0, 1, 2, 5, 6] (by decide) rfl
              have hKc := hK.sub (tys' := [(g0, .int), (g1, .int), (g4, .int), (g5, .int)]) [0, 1, 4, 5] rfl
              have hFc := va_free (wc := (wd_62728821 h0 h1 h2 h3 h4 h5 h6 v0 v1 v2 h1 g0 f3 h2 g1 f4 h5 g4 fn16 h6 g5 fn17)) hD hS hA [0, 1, 2, 5, 6] rfl
              refine va_calli (va_runV (As := [.int 3, .int x14]) (rest := []) ⟨hx, hb, hml, hown, hts⟩ (k_X8_standsWell l dC dI h0 h1 h2 h5 h6 h3 h4 v0 v1 v2 g0 f3 g1 f4 g4 fn16 g5 fn17 3 x14 ⟨i_v2a, i_v2b⟩ H.size) (cwV 2 hts g_X8_place_5_0 rfl rfl rfl (by decide +kernel) ⟨Nat.le_of_ble_eq_true rfl, Nat.le_of_ble_eq_true rfl⟩) (pv_PV8 hPc hKc hDc (q0 := 0) rfl) rfl rfl hl.1 rfl (lv_room (Nat.le_of_ble_eq_true rfl)) dX8_place_46 ⟨Nat.le_of_ble_eq_true rfl, Nat.le_of_ble_eq_true rfl⟩) hS (fun q _ h => hFc q h) hFc (fun ra26 u t H1 locs ht hvm hwra26 hB hz1 hk1 hS => ?_)
              obtain ⟨hP1, hK1, hD1⟩ := hB
              rw [ht] at hP1
              obtain ⟨hP2, hD2⟩ := va_join (wr := (wd_c3b6304c h3 g2 f5 h4 g3 fn15)) (w1 := (wd_62728821 h0 h1 h2 h3 h4 h5 h6 v0 v1 v2 h1 g0 f3 h2 g1 f4 h5 g4 fn16 h6 g5 fn17)) hP hD [0, 1, 2, 5, 6] [3, 4] rfl rfl (by decide) (by decide) hk1 hFc hP1 hD1
              clear hP hD hPc hDc hKc hFc hP1 hK1 hD1 hk1 hz1
              generalize H1 = H at hP2 hS ⊢
              have hP := hP2.sub (ws' := (wd_1ad5b18c h0 h1 h2 h3 h4 h5 h6 v0 v1 v2 h1 g0 f3 h2 g1 f4 h3 g2 f5 h4 g3 fn15 h5 g4 fn16 h6 g5 fn17)) [2, 3, 4, 0, 1, 5, 6] rfl
              have hD := hD2.sub (ws' := (wd_1ad5b18c h0 h1 h2 h3 h4 h5 h6 v0 v1 v2 h1 g0 f3 h2 g1 f4 h3 g2 f5 h4 g3 fn15 h5 g4 fn16 h6 g5 fn17)) [2, 3, 4, 0, 1, 5, 6] (by decide) rfl
              clear hP2 hD2
              obtain ⟨wa_ra26, wb_ra26⟩ := hwra26
              have wa_ra26 : 0 ≤ ra26.toInt := wa_ra26
              have wb_ra26 : ra26.toInt ≤ 1 := wb_ra26
              refine lv_if_eq (tgt := 151) hx hb dX8_place_49 (by decide) (fun c27 => ?_) (fun c27 => ?_)
              · skip
                have fc27 : ra26.toInt = 0 := congrArg Int32.toInt c27
                obtain ⟨t28, et28⟩ : ∃ y : Int32, y = x14 + 1 := ⟨_, rfl⟩
                have gt28 : t28.toInt = x14.toInt + (1) := pv_add (a := x14.toInt) (b := (1)) et28 rfl (by decide) (by omega) (by omega)
                refine lv_iinc (v := t28) (lv' := [(4, .int t28), (0, .ref h0), (1, .int 3), (2, .int v9), (3, .int v10)]) hx hb dX8_place_151 hl (k := 0) rfl (by rw [et28]; rfl) (by decide) rfl (fun ls hl => ?_)
                refine lv_goto (tgt := 23) hx hb dX8_place_154 (by decide) ?_
                exact ih_hL22 t28 fn15 fn16 fn17 H locs ls (by first | omega | decide) (by first | omega | decide) (by first | omega | (simp only [Int.toNat] at *; omega)) hP hD hS (lv_sub hl [0, 1, 2, 3, 4] rfl)
              · skip
                have fc27 : ¬ (ra26.toInt = 0) := fun h9 => c27 (Int32.toInt_inj.mp h9)
                refine lv_aload_n hx hb dX8_place_52 rfl (lv_at hl 1 rfl) ?_
                refine va_get (D := (dC, dI)) (ci := 8) (v := .ref h4) (C := RX8) (T := TX8) (N := 9) hx hb hts (fun _ h => List.mem_cons_of_mem _ (List.mem_append_right _ h)) hown hK hP 0 rfl rfl 3 (by decide) (hts (.fieldLink RX8 21 "LeftArguments$Rows" "chosen" "[I") (List.mem_cons_of_mem _ (List.mem_append_left _ (List.mem_of_getElem? (i := 12) rfl)))) (fun _ h9 => h9) rfl dX8_place_53 ?_
                refine lv_iload_n hx hb dX8_place_56 rfl (lv_at hl 2 rfl) ?_
                refine lv_iload hx hb dX8_place_57 (lv_at hl 0 rfl) ?_
                refine va_iast hx hb hK hP hD hS 4 3 rfl rfl (pv_c (x := 3) (n := 8) (by decide)) dX8_place_59 (fun H locs hP hD hS => ?_)
                obtain ⟨fn29, efn29⟩ : ∃ g : Nat → Int32, g = upd fn15 (Int32.toNatClampNeg 3) x14 := ⟨_, rfl⟩
                rw [← efn29] at hP hD
                have hP : va_P (dC, dI) vwCl (wd_1ad5b18c h0 h1 h2 h3 h4 h5 h6 v0 v1 v2 h1 g0 f3 h2 g1 f4 h3 g2 f5 h4 g3 fn29 h5 g4 fn16 h6 g5 fn17) H := hP
                have hD : va_D A (wd_1ad5b18c h0 h1 h2 h3 h4 h5 h6 v0 v1 v2 h1 g0 f3 h2 g1 f4 h3 g2 f5 h4 g3 fn29 h5 g4 fn16 h6 g5 fn17) := hD
                refine lv_aload_n hx hb dX8_place_60 rfl (lv_at hl 1 rfl) ?_
                refine va_get (D := (dC, dI)) (ci := 8) (v := .ref h5) (C := RX8) (T := TX8) (N := 9) hx hb hts (fun _ h => List.mem_cons_of_mem _ (List.mem_append_right _ h)) hown hK hP 0 rfl rfl 4 (by decide) (hts (.fieldLink RX8 24 "LeftArguments$Rows" "loads" "[I") (List.mem_cons_of_mem _ (List.mem_append_left _ (List.mem_of_getElem? (i := 5) rfl)))) (fun _ h9 => h9) rfl dX8_place_61 ?_
                refine lv_iload hx hb dX8_place_64 (lv_at hl 0 rfl) ?_
                refine lv_dup2_11 hx hb dX8_place_66 rfl rfl ?_
                refine va_iald hx hb hK hP 5 4 rfl rfl (vp_in_iff.mpr ⟨by omega, by omega⟩) dX8_place_67 ?_
                refine lv_topi (fun t30 et30 => ?_)
                refine lv_aload_n hx hb dX8_place_68 rfl (lv_at hl 1 rfl) ?_
                refine va_get (D := (dC, dI)) (ci := 8) (v := .ref h1) (C := RX8) (T := TX8) (N := 9) hx hb hts (fun _ h => List.mem_cons_of_mem _ (List.mem_append_right _ h)) hown hK hP 0 rfl rfl 0 (by decide) (hts (.fieldLink RX8 9 "LeftArguments$Rows" "sizes" "[I") (List.mem_cons_of_mem _ (List.mem_append_left _ (List.mem_of_getElem? (i := 6) rfl)))) (fun _ h9 => h9) rfl dX8_place_69 ?_
                refine lv_iload_n hx hb dX8_place_72 rfl (lv_at hl 2 rfl) ?_
                refine va_iald hx hb hK hP 1 0 rfl rfl (pv_c (x := 3) (n := 8) (by decide)) dX8_place_73 ?_
                refine lv_topi (fun t31 et31 => ?_)
                refine lv_iadd hx hb dX8_place_74 ?_
                refine lv_topi (fun t32 et32 => ?_)
                refine va_iast hx hb hK hP hD hS 5 4 rfl rfl (vp_in_iff.mpr ⟨by omega, by omega⟩) dX8_place_75 (fun H locs hP hD hS => ?_)
                obtain ⟨fn33, efn33⟩ : ∃ g : Nat → Int32, g = upd fn16 (Int32.toNatClampNeg x14) t32 := ⟨_, rfl⟩
                rw [← efn33] at hP hD
                have hP : va_P (dC, dI) vwCl (wd_1ad5b18c h0 h1 h2 h3 h4 h5 h6 v0 v1 v2 h1 g0 f3 h2 g1 f4 h3 g2 f5 h4 g3 fn29 h5 g4 fn33 h6 g5 fn17) H := hP
                have hD : va_D A (wd_1ad5b18c h0 h1 h2 h3 h4 h5 h6 v0 v1 v2 h1 g0 f3 h2 g1 f4 h3 g2 f5 h4 g3 fn29 h5 g4 fn33 h6 g5 fn17) := hD
                refine lv_aload_n hx hb dX8_place_76 rfl (lv_at hl 1 rfl) ?_
                refine va_get (D := (dC, dI)) (ci := 8) (v := .ref h6) (C := RX8) (T := TX8) (N := 9) hx hb hts (fun _ h => List.mem_cons_of_mem _ (List.mem_append_right _ h)) hown hK hP 0 rfl rfl 5 (by decide) (hts (.fieldLink RX8 27 "LeftArguments$Rows" "standing" "[I") (List.mem_cons_of_mem _ (List.mem_append_left _ (List.mem_of_getElem? (i := 3) rfl)))) (fun _ h9 => h9) rfl dX8_place_77 ?_
                refine lv_iload hx hb dX8_place_80 (lv_at hl 0 rfl) ?_
                refine lv_dup2_11 hx hb dX8_place_82 rfl rfl ?_
                refine va_iald hx hb hK hP 6 5 rfl rfl (vp_in_iff.mpr ⟨by omega, by omega⟩) dX8_place_83 ?_
                refine lv_topi (fun t34 et34 => ?_)
                refine lv_iconst (v := 1) hx hb dX8_place_84 (by decide) ?_
                refine lv_aload_n hx hb dX8_place_85 rfl (lv_at hl 1 rfl) ?_
                refine va_get (D := (dC, dI)) (ci := 8) (v := .ref h3) (C := RX8) (T := TX8) (N := 9) hx hb hts (fun _ h => List.mem_cons_of_mem _ (List.mem_append_right _ h)) hown hK hP 0 rfl rfl 2 (by decide) (hts (.fieldLink RX8 18 "LeftArguments$Rows" "places" "[I") (List.mem_cons_of_mem _ (List.mem_append_left _ (List.mem_of_getElem? (i := 13) rfl)))) (fun _ h9 => h9) rfl dX8_place_86 ?_
                refine lv_iload_n hx hb dX8_place_89 rfl (lv_at hl 2 rfl) ?_
                refine va_iald hx hb hK hP 3 2 rfl rfl (pv_c (x := 3) (n := 8) (by decide)) dX8_place_90 ?_
                refine lv_topi (fun t35 et35 => ?_)
                refine lv_ishl hx hb dX8_place_91 ?_
                refine lv_topi (fun t36 et36 => ?_)
                refine lv_ior hx hb dX8_place_92 ?_
                refine lv_topi (fun t37 et37 => ?_)
                refine va_iast hx hb hK hP hD hS 6 5 rfl rfl (vp_in_iff.mpr ⟨by omega, by omega⟩) dX8_place_93 (fun H locs hP hD hS => ?_)
                obtain ⟨fn38, efn38⟩ : ∃ g : Nat → Int32, g = upd fn17 (Int32.toNatClampNeg x14) t37 := ⟨_, rfl⟩
                rw [← efn38] at hP hD
                have hP : va_P (dC, dI) vwCl (wd_1ad5b18c h0 h1 h2 h3 h4 h5 h6 v0 v1 v2 h1 g0 f3 h2 g1 f4 h3 g2 f5 h4 g3 fn29 h5 g4 fn33 h6 g5 fn38) H := hP
                have hD : va_D A (wd_1ad5b18c h0 h1 h2 h3 h4 h5 h6 v0 v1 v2 h1 g0 f3 h2 g1 f4 h3 g2 f5 h4 g3 fn29 h5 g4 fn33 h6 g5 fn38) := hD
                refine lv_aload_n hx hb dX8_place_94 rfl (lv_at hl 1 rfl) ?_
                refine lv_iload_n hx hb dX8_place_95 rfl (lv_at hl 2 rfl) ?_
                refine lv_iconst (v := 1) hx hb dX8_place_96 (by decide) ?_
                refine lv_iadd hx hb dX8_place_97 ?_
                refine lv_topi (fun tv39 etv39 => ?_)
                obtain rfl : tv39 = (4 : Int32) := etv39.trans (by first | rfl | decide)
                refine lv_iload_n hx hb dX8_place_98 rfl (lv_at hl 3 rfl) ?_
                refine lv_iload hx hb dX8_place_99 (lv_at hl 0 rfl) ?_
                refine lv_iconst (v := 1) hx hb dX8_place_101 (by decide) ?_
                refine lv_iadd hx hb dX8_place_102 ?_
                refine lv_topi (fun t40 et40 => ?_)
                have gt40 : t40.toInt = x14.toInt + 1 := pv_add (a := x14.toInt) (b := 1) et40 rfl (by decide) (by omega) (by omega)
                refine va_mmax hx hb (by rw [hml]; exact hl.1.symm) hown (hts (.methodLink RX8 72 Lib.Math.max.name) (List.mem_cons_of_mem _ (List.mem_append_left _ (List.mem_of_getElem? (i := 14) rfl)))) (hts (.static Lib.Math.max.name) (List.mem_cons_of_mem _ (List.mem_append_left _ (List.mem_of_getElem? (i := 15) rfl)))) (hts (.initialized "java/lang/Math") (List.mem_cons_of_mem _ (List.mem_append_left _ (List.mem_of_getElem? (i := 16) rfl)))) (hts (.code Lib.Math.max.name Lib.Math.max.code 2 (some .int)) (List.mem_cons_of_mem _ (List.mem_append_left _ (List.mem_of_getElem? (i := 17) rfl)))) (Nat.le_of_ble_eq_true rfl) (Nat.le_of_ble_eq_true rfl) (Nat.le_of_ble_eq_true rfl) (Nat.le_of_ble_eq_true rfl) dX8_place_103 ?_
                refine lv_topi (fun t41 et41 => ?_)
                obtain ⟨gat41, gbt41, gct41⟩ := pv_max (a := v9.toInt) (b := t40.toInt) et41 rfl rfl
                refine lv_iload_n hx hb dX8_place_106 rfl (lv_at hl 4 rfl) ?_
                have hPc := hP.sub (ws' := (wd_1ad5b18c h0 h1 h2 h3 h4 h5 h6 v0 v1 v2 h1 g0 f3 h2 g1 f4 h3 g2 f5 h4 g3 fn29 h5 g4 fn33 h6 g5 fn38)) [0, 1, 2, 3, 4, 5, 6] rfl
                have hDc := hD.sub (ws' := (wd_1ad5b18c h0 h1 h2 h3 h4 h5 h6 v0 v1 v2 h1 g0 f3 h2 g1 f4 h3 g2 f5 h4 g3 fn29 h5 g4 fn33 h6 g5 fn38)) [0, 1, 2, 3, 4, 5, 6] (by decide) rfl
                have hKc := hK.sub (tys' := [(g0, .int), (g1, .int), (g2, .int), (g3, .int), (g4, .int), (g5, .int)]) [0, 1, 2, 3, 4, 5] rfl
                have hFc := va_free (wc := (wd_1ad5b18c h0 h1 h2 h3 h4 h5 h6 v0 v1 v2 h1 g0 f3 h2 g1 f4 h3 g2 f5 h4 g3 fn29 h5 g4 fn33 h6 g5 fn38)) hD hS hA [0, 1, 2, 3, 4, 5, 6] rfl
                refine va_calli (va_runV (As := [.int 4, .int t41, .int v10]) (rest := []) ⟨hx, hb, hml, hown, hts⟩ (k_X8_place_4 l dC dI h0 h1 h2 h3 h4 h5 h6 v0 v1 v2 g0 f3 g1 f4 g2 f5 g3 fn29 g4 fn33 g5 fn38 t41 v10 ⟨i_v2a, i_v2b⟩ H.size) (cwV 3 hts g_X8_place_5_1 rfl rfl rfl (by decide +kernel) ⟨Nat.le_of_ble_eq_true rfl, Nat.le_of_ble_eq_true rfl⟩) (pv_PV8 hPc hKc hDc (q0 := 0) rfl) rfl rfl hl.1 rfl (lv_room (Nat.le_of_ble_eq_true rfl)) dX8_place_107 ⟨Nat.le_of_ble_eq_true rfl, Nat.le_of_ble_eq_true rfl⟩) hS (fun q _ h => hFc q h) hFc (fun ra42 u t H1 locs ht hvm hwra42 hB hz1 hk1 hS => ?_)
                obtain ⟨fn43, fn44, fn45, hP1, hK1, hD1⟩ := hB
                rw [ht] at hP1
                obtain ⟨hP2, hD2⟩ := va_join (wr := []) (w1 := (wd_1ad5b18c h0 h1 h2 h3 h4 h5 h6 v0 v1 v2 h1 g0 f3 h2 g1 f4 h3 g2 f5 h4 g3 fn43 h5 g4 fn44 h6 g5 fn45)) hP hD [0, 1, 2, 3, 4, 5, 6] [] rfl rfl (by decide) (by decide) hk1 hFc hP1 hD1
                clear hP hD hPc hDc hKc hFc hP1 hK1 hD1 hk1 hz1
                generalize H1 = H at hP2 hS ⊢
                have hP : va_P (dC, dI) vwCl (wd_1ad5b18c h0 h1 h2 h3 h4 h5 h6 v0 v1 v2 h1 g0 f3 h2 g1 f4 h3 g2 f5 h4 g3 fn43 h5 g4 fn44 h6 g5 fn45) H := hP2
                have hD : va_D A (wd_1ad5b18c h0 h1 h2 h3 h4 h5 h6 v0 v1 v2 h1 g0 f3 h2 g1 f4 h3 g2 f5 h4 g3 fn43 h5 g4 fn44 h6 g5 fn45) := hD2
                clear hP2 hD2
                obtain ⟨wa_ra42, wb_ra42⟩ := hwra42
                have wa_ra42 : 0 ≤ ra42.toInt := wa_ra42
                have wb_ra42 : ra42.toInt ≤ 1 := wb_ra42
                refine lv_if_eq (tgt := 115) hx hb dX8_place_110 (by decide) (fun c46 => ?_) (fun c46 => ?_)
                · skip
                  have fc46 : ra42.toInt = 0 := congrArg Int32.toInt c46
                  refine lv_aload_n hx hb dX8_place_115 rfl (lv_at hl 1 rfl) ?_
                  refine va_get (D := (dC, dI)) (ci := 8) (v := .ref h5) (C := RX8) (T := TX8) (N := 9) hx hb hts (fun _ h => List.mem_cons_of_mem _ (List.mem_append_right _ h)) hown hK hP 0 rfl rfl 4 (by decide) (hts (.fieldLink RX8 24 "LeftArguments$Rows" "loads" "[I") (List.mem_cons_of_mem _ (List.mem_append_left _ (List.mem_of_getElem? (i := 5) rfl)))) (fun _ h9 => h9) rfl dX8_place_116 ?_
                  refine lv_iload hx hb dX8_place_119 (lv_at hl 0 rfl) ?_
                  refine lv_dup2_11 hx hb dX8_place_121 rfl rfl ?_
                  refine va_iald hx hb hK hP 5 4 rfl rfl (vp_in_iff.mpr ⟨by omega, by omega⟩) dX8_place_122 ?_
                  refine lv_topi (fun t47 et47 => ?_)
                  refine lv_aload_n hx hb dX8_place_123 rfl (lv_at hl 1 rfl) ?_
                  refine va_get (D := (dC, dI)) (ci := 8) (v := .ref h1) (C := RX8) (T := TX8) (N := 9) hx hb hts (fun _ h => List.mem_cons_of_mem _ (List.mem_append_right _ h)) hown hK hP 0 rfl rfl 0 (by decide) (hts (.fieldLink RX8 9 "LeftArguments$Rows" "sizes" "[I") (List.mem_cons_of_mem _ (List.mem_append_left _ (List.mem_of_getElem? (i := 6) rfl)))) (fun _ h9 => h9) rfl dX8_place_124 ?_
                  refine lv_iload_n hx hb dX8_place_127 rfl (lv_at hl 2 rfl) ?_
                  refine va_iald hx hb hK hP 1 0 rfl rfl (pv_c (x := 3) (n := 8) (by decide)) dX8_place_128 ?_
                  refine lv_topi (fun t48 et48 => ?_)
                  refine lv_isub hx hb dX8_place_129 ?_
                  refine lv_topi (fun t49 et49 => ?_)
                  refine va_iast hx hb hK hP hD hS 5 4 rfl rfl (vp_in_iff.mpr ⟨by omega, by omega⟩) dX8_place_130 (fun H locs hP hD hS => ?_)
                  obtain ⟨fn50, efn50⟩ : ∃ g : Nat → Int32, g = upd fn44 (Int32.toNatClampNeg x14) t49 := ⟨_, rfl⟩
                  rw [← efn50] at hP hD
                  have hP : va_P (dC, dI) vwCl (wd_1ad5b18c h0 h1 h2 h3 h4 h5 h6 v0 v1 v2 h1 g0 f3 h2 g1 f4 h3 g2 f5 h4 g3 fn43 h5 g4 fn50 h6 g5 fn45) H := hP
                  have hD : va_D A (wd_1ad5b18c h0 h1 h2 h3 h4 h5 h6 v0 v1 v2 h1 g0 f3 h2 g1 f4 h3 g2 f5 h4 g3 fn43 h5 g4 fn50 h6 g5 fn45) := hD
                  refine lv_aload_n hx hb dX8_place_131 rfl (lv_at hl 1 rfl) ?_
                  refine va_get (D := (dC, dI)) (ci := 8) (v := .ref h6) (C := RX8) (T := TX8) (N := 9) hx hb hts (fun _ h => List.mem_cons_of_mem _ (List.mem_append_right _ h)) hown hK hP 0 rfl rfl 5 (by decide) (hts (.fieldLink RX8 27 "LeftArguments$Rows" "standing" "[I") (List.mem_cons_of_mem _ (List.mem_append_left _ (List.mem_of_getElem? (i := 3) rfl)))) (fun _ h9 => h9) rfl dX8_place_132 ?_
                  refine lv_iload hx hb dX8_place_135 (lv_at hl 0 rfl) ?_
                  refine lv_dup2_11 hx hb dX8_place_137 rfl rfl ?_
                  refine va_iald hx hb hK hP 6 5 rfl rfl (vp_in_iff.mpr ⟨by omega, by omega⟩) dX8_place_138 ?_
                  refine lv_topi (fun t51 et51 => ?_)
                  refine lv_iconst (v := 1) hx hb dX8_place_139 (by decide) ?_
                  refine lv_aload_n hx hb dX8_place_140 rfl (lv_at hl 1 rfl) ?_
                  refine va_get (D := (dC, dI)) (ci := 8) (v := .ref h3) (C := RX8) (T := TX8) (N := 9) hx hb hts (fun _ h => List.mem_cons_of_mem _ (List.mem_append_right _ h)) hown hK hP 0 rfl rfl 2 (by decide) (hts (.fieldLink RX8 18 "LeftArguments$Rows" "places" "[I") (List.mem_cons_of_mem _ (List.mem_append_left _ (List.mem_of_getElem? (i := 13) rfl)))) (fun _ h9 => h9) rfl dX8_place_141 ?_
                  refine lv_iload_n hx hb dX8_place_144 rfl (lv_at hl 2 rfl) ?_
                  refine va_iald hx hb hK hP 3 2 rfl rfl (pv_c (x := 3) (n := 8) (by decide)) dX8_place_145 ?_
                  refine lv_topi (fun t52 et52 => ?_)
                  refine lv_ishl hx hb dX8_place_146 ?_
                  refine lv_topi (fun t53 et53 => ?_)
                  refine lv_iconst (v := (-1)) hx hb dX8_place_147 (by decide) ?_
                  refine lv_ixor hx hb dX8_place_148 ?_
                  refine lv_topi (fun t54 et54 => ?_)
                  refine lv_iand hx hb dX8_place_149 ?_
                  refine lv_topi (fun t55 et55 => ?_)
                  refine va_iast hx hb hK hP hD hS 6 5 rfl rfl (vp_in_iff.mpr ⟨by omega, by omega⟩) dX8_place_150 (fun H locs hP hD hS => ?_)
                  obtain ⟨fn56, efn56⟩ : ∃ g : Nat → Int32, g = upd fn45 (Int32.toNatClampNeg x14) t55 := ⟨_, rfl⟩
                  rw [← efn56] at hP hD
                  have hP : va_P (dC, dI) vwCl (wd_1ad5b18c h0 h1 h2 h3 h4 h5 h6 v0 v1 v2 h1 g0 f3 h2 g1 f4 h3 g2 f5 h4 g3 fn43 h5 g4 fn50 h6 g5 fn56) H := hP
                  have hD : va_D A (wd_1ad5b18c h0 h1 h2 h3 h4 h5 h6 v0 v1 v2 h1 g0 f3 h2 g1 f4 h3 g2 f5 h4 g3 fn43 h5 g4 fn50 h6 g5 fn56) := hD
                  obtain ⟨t57, et57⟩ : ∃ y : Int32, y = x14 + 1 := ⟨_, rfl⟩
                  have gt57 : t57.toInt = x14.toInt + (1) := pv_add (a := x14.toInt) (b := (1)) et57 rfl (by decide) (by omega) (by omega)
                  refine lv_iinc (v := t57) (lv' := [(4, .int t57), (0, .ref h0), (1, .int 3), (2, .int v9), (3, .int v10)]) hx hb dX8_place_151 hl (k := 0) rfl (by rw [et57]; rfl) (by decide) rfl (fun ls hl => ?_)
                  refine lv_goto (tgt := 23) hx hb dX8_place_154 (by decide) ?_
                  exact ih_hL22 t57 fn43 fn50 fn56 H locs ls (by first | omega | decide) (by first | omega | decide) (by first | omega | (simp only [Int.toNat] at *; omega)) hP hD hS (lv_sub hl [0, 1, 2, 3, 4] rfl)
                · skip
                  have fc46 : ¬ (ra42.toInt = 0) := fun h9 => c46 (Int32.toInt_inj.mp h9)
                  refine lv_iconst (v := 1) hx hb dX8_place_113 (by decide) ?_
                  subst hQ
                  have hP9 := hP.sub (ws' := (wd_1ad5b18c h0 h1 h2 h3 h4 h5 h6 v0 v1 v2 h1 g0 f3 h2 g1 f4 h3 g2 f5 h4 g3 fn43 h5 g4 fn44 h6 g5 fn45)) [0, 1, 2, 3, 4, 5, 6] rfl
                  have hD9 := hD.sub (ws' := (wd_1ad5b18c h0 h1 h2 h3 h4 h5 h6 v0 v1 v2 h1 g0 f3 h2 g1 f4 h3 g2 f5 h4 g3 fn43 h5 g4 fn44 h6 g5 fn45)) [0, 1, 2, 3, 4, 5, 6] (by decide) rfl
                  have hK9 := hK.sub (tys' := []) [] rfl
                  exact W.zret (v := 1) hx hb hr rfl (fun t ht hW => ⟨⟨1, (), rfl, ⟨by first | omega | decide, by first | omega | decide⟩, fn43, fn44, fn45, by rw [ht]; exact hP9, va_K.moved hW.alike hK9, hD9⟩, hS.F ht⟩) hS.2.2 dX8_place_114
    exact hL22 _ 0 f6 f7 f8 H locs ls (by decide) (by decide) (Nat.lt_succ_self _) hP hD hS (lv_sub hl [0, 1, 2, 3, 4] rfl)
def q_X8_place_6 : List Cond := .code yX8_place cX8_place 5 (some .boolean) :: (([.fieldLink RX8 30 "LeftArguments$Rows" "bags" "I", .code yX8_standsWell cX8_standsWell 3 (some .boolean), .fieldLink RX8 37 "LeftArguments$Rows" "byRoom" "Z", .fieldLink RX8 27 "LeftArguments$Rows" "standing" "[I", .fieldLink RX8 15 "LeftArguments$Rows" "circles" "[I", .fieldLink RX8 24 "LeftArguments$Rows" "loads" "[I", .fieldLink RX8 9 "LeftArguments$Rows" "sizes" "[I", .fieldLink RX8 34 "LeftArguments$Rows" "wide" "I", .initialized RX8, .instanceMethod yX8_standsWell, .selects RX8 yX8_standsWell yX8_standsWell, .methodLink RX8 68 yX8_standsWell, .fieldLink RX8 21 "LeftArguments$Rows" "chosen" "[I", .fieldLink RX8 18 "LeftArguments$Rows" "places" "[I", .methodLink RX8 72 Lib.Math.max.name, .static Lib.Math.max.name, .initialized "java/lang/Math", .code Lib.Math.max.name Lib.Math.max.code 2 (some .int), .code yX8_place cX8_place 5 (some .boolean), .instanceMethod yX8_place, .selects RX8 yX8_place yX8_place, .methodLink RX8 64 yX8_place] : List Cond) ++ wsX80)
set_option maxRecDepth 20000 in
theorem g_X8_place_6_0 : GoodIn q_X8_place_6 (wsV RX8 68 RX8 yX8_standsWell q_X8_standsWell) := goodIn_app (goodIn_r _ [12, 10, 11, 9] rfl (by decide +kernel)) (goodIn_ca (goodIn_r (.code yX8_standsWell cX8_standsWell 3 (some .boolean) :: [.fieldLink RX8 37 "LeftArguments$Rows" "byRoom" "Z", .fieldLink RX8 27 "LeftArguments$Rows" "standing" "[I", .fieldLink RX8 15 "LeftArguments$Rows" "circles" "[I", .fieldLink RX8 24 "LeftArguments$Rows" "loads" "[I", .fieldLink RX8 9 "LeftArguments$Rows" "sizes" "[I", .fieldLink RX8 34 "LeftArguments$Rows" "wide" "I"]) [2, 3, 4, 5, 6, 7, 8] rfl (by decide +kernel)) (goodIn_sub (fun _ h => List.mem_cons_of_mem _ (List.mem_append_right _ h)) gwX8))
set_option maxRecDepth 20000 in
theorem g_X8_place_6_1 : GoodIn q_X8_place_6 (wsV RX8 64 RX8 yX8_place q_X8_place_5) := goodIn_app (goodIn_r _ [22, 20, 21, 9] rfl (by decide +kernel)) (goodIn_ca (goodIn_r (.code yX8_place cX8_place 5 (some .boolean) :: [.fieldLink RX8 30 "LeftArguments$Rows" "bags" "I", .code yX8_standsWell cX8_standsWell 3 (some .boolean), .fieldLink RX8 37 "LeftArguments$Rows" "byRoom" "Z", .fieldLink RX8 27 "LeftArguments$Rows" "standing" "[I", .fieldLink RX8 15 "LeftArguments$Rows" "circles" "[I", .fieldLink RX8 24 "LeftArguments$Rows" "loads" "[I", .fieldLink RX8 9 "LeftArguments$Rows" "sizes" "[I", .fieldLink RX8 34 "LeftArguments$Rows" "wide" "I", .initialized RX8, .instanceMethod yX8_standsWell, .selects RX8 yX8_standsWell yX8_standsWell, .methodLink RX8 68 yX8_standsWell, .fieldLink RX8 21 "LeftArguments$Rows" "chosen" "[I", .fieldLink RX8 18 "LeftArguments$Rows" "places" "[I", .methodLink RX8 72 Lib.Math.max.name, .static Lib.Math.max.name, .initialized "java/lang/Math", .code Lib.Math.max.name Lib.Math.max.code 2 (some .int), .code yX8_place cX8_place 5 (some .boolean), .instanceMethod yX8_place, .selects RX8 yX8_place yX8_place, .methodLink RX8 64 yX8_place]) [19, 1, 2, 3, 4, 5, 6, 7, 8, 9, 10, 11, 12, 13, 14, 15, 16, 17, 18, 19, 20, 21, 22] rfl (by decide +kernel)) (goodIn_sub (fun _ h => List.mem_cons_of_mem _ (List.mem_append_right _ h)) gwX8))
set_option maxHeartbeats 4000000 in
set_option maxRecDepth 100000 in
theorem k_X8_place_6 (l : Launch) (dC : Nat → ClassId) (dI : Nat → Nat → Nat) (h0 : Nat) (h1 : Nat) (h2 : Nat) (h3 : Nat) (h4 : Nat) (h5 : Nat) (h6 : Nat) (v0 : Int32) (v1 : Int32) (v2 : Int32) (g0 : ClassId) (f3 : Nat → Int32) (g1 : ClassId) (f4 : Nat → Int32) (g2 : ClassId) (f5 : Nat → Int32) (g3 : ClassId) (f6 : Nat → Int32) (g4 : ClassId) (f7 : Nat → Int32) (g5 : ClassId) (f8 : Nat → Int32) (v9 : Int32) (v10 : Int32) (i_v2 : 0 ≤ v2.toInt ∧ v2.toInt ≤ 1) (sz : Nat) : Met l yX8_place q_X8_place_6 ({ frames := 6, cells := 0, slots := 0, locals := 144 }) (va_Pc [.ref h0, .int 2, .int v9, .int v10] (fun U => U.heap.size = sz ∧ va_P (dC, dI) vwCl (wd_1ad5b18c h0 h1 h2 h3 h4 h5 h6 v0 v1 v2 h1 g0 f3 h2 g1 f4 h3 g2 f5 h4 g3 f6 h5 g4 f7 h6 g5 f8) U.heap ∧ va_K (dC, dI) vwCl [(g0, .int), (g1, .int), (g2, .int), (g3, .int), (g4, .int), (g5, .int)] U ∧ va_D (fun _ => True) (wd_1ad5b18c h0 h1 h2 h3 h4 h5 h6 v0 v1 v2 h1 g0 f3 h2 g1 f4 h3 g2 f5 h4 g3 f6 h5 g4 f7 h6 g5 f8))) (va_Qi (fun (r : Int32) (_ : Unit) => 0 ≤ r.toInt ∧ r.toInt ≤ 1) (fun (_ : Unit) (t : State) => ∃ (o_h4 : Nat → Int32) (o_h5 : Nat → Int32) (o_h6 : Nat → Int32), va_P (dC, dI) vwCl (wd_1ad5b18c h0 h1 h2 h3 h4 h5 h6 v0 v1 v2 h1 g0 f3 h2 g1 f4 h3 g2 f5 h4 g3 o_h4 h5 g4 o_h5 h6 g5 o_h6) t.heap ∧ va_K (dC, dI) vwCl [] t ∧ va_D (va_A (wd_1ad5b18c h0 h1 h2 h3 h4 h5 h6 v0 v1 v2 h1 g0 f3 h2 g1 f4 h3 g2 f5 h4 g3 f6 h5 g4 f7 h6 g5 f8) sz) (wd_1ad5b18c h0 h1 h2 h3 h4 h5 h6 v0 v1 v2 h1 g0 f3 h2 g1 f4 h3 g2 f5 h4 g3 o_h4 h5 g4 o_h5 h6 g5 o_h6)) (va_A (wd_1ad5b18c h0 h1 h2 h3 h4 h5 h6 v0 v1 v2 h1 g0 f3 h2 g1 f4 h3 g2 f5 h4 g3 f6 h5 g4 f7 h6 g5 f8) sz)) 0 0 (va_A (wd_1ad5b18c h0 h1 h2 h3 h4 h5 h6 v0 v1 v2 h1 g0 f3 h2 g1 f4 h3 g2 f5 h4 g3 f6 h5 g4 f7 h6 g5 f8) sz) := by
  refine Met.ofW (cc := cX8_place) (maxL := 5) (ret := (some .boolean)) (by decide) rfl ?_
  intro p e s m args below meth c s₁ B hml hv
  obtain ⟨i_v2a, i_v2b⟩ := i_v2
  obtain ⟨rfl, hsz, hP, hK, hD0⟩ := hv
  have hx := B.exec
  have hb := B.bytes
  have hr := B.returns
  have hts := atoms_spec (ws := q_X8_place_6) B.pre
  have hown : s.vm.findClass RX8 = some m.cls := findClass_of_methodNamed B.named
  have hlocks := B.notSynchronized
  subst hsz
  have hD := hD0.self (sz := s.heap.size)
  generalize hAe : va_A (wd_1ad5b18c h0 h1 h2 h3 h4 h5 h6 v0 v1 v2 h1 g0 f3 h2 g1 f4 h3 g2 f5 h4 g3 f6 h5 g4 f7 h6 g5 f8) s.heap.size = A at hD ⊢
  have hA : ∀ q : Nat, s.heap.size ≤ q → A q := fun q h => by rw [← hAe]; exact Or.inr h
  have hS : va_S A s.heap s.heap [] := va_S.rf
  generalize hQ : (MQ below _ _ s 0 0 A) = Q
  have hl := lv_entry ([.ref h0, .int 2, .int v9, .int v10]) (n := 5) (Nat.le_of_ble_eq_true rfl)
  rw [lg_entry_eq]
  generalize (lg_sl ([.ref h0, .int 2, .int v9, .int v10]) ++ List.replicate (5 - (lg_sl ([.ref h0, .int 2, .int v9, .int v10])).length) Slot.unset).toArray = ls at hl ⊢
  have hl : lv_has ls 5 [(0, .ref h0), (1, .int 2), (2, .int v9), (3, .int v10)] := hl
  obtain ⟨H, hH⟩ : ∃ H : Heap, H = s.heap := ⟨_, rfl⟩
  obtain ⟨locs, hlocs⟩ : ∃ y : List Loc, y = [] := ⟨_, rfl⟩
  have hS : va_S A s.heap H locs := by rw [hH, hlocs]; exact va_S.rf
  have hP : va_P (dC, dI) vwCl (wd_1ad5b18c h0 h1 h2 h3 h4 h5 h6 v0 v1 v2 h1 g0 f3 h2 g1 f4 h3 g2 f5 h4 g3 f6 h5 g4 f7 h6 g5 f8) H := by rw [hH]; exact hP
  rw [← hH, ← hlocs]
  refine lv_iload_n hx hb dX8_place_0 rfl (lv_at hl 1 rfl) ?_
  refine lv_if_lt (tgt := 18) hx hb dX8_place_1 (by decide) (fun c => absurd c (by decide)) (fun _ => ?_)
  refine lv_iload_n hx hb dX8_place_4 rfl (lv_at hl 1 rfl) ?_
  refine lv_aload_n hx hb dX8_place_5 rfl (lv_at hl 0 rfl) ?_
  refine va_get (D := (dC, dI)) (ci := 8) (v := .int v0) (C := RX8) (T := TX8) (N := 9) hx hb hts (fun _ h => List.mem_cons_of_mem _ (List.mem_append_right _ h)) hown hK hP 0 rfl rfl 6 (by decide) (hts (.fieldLink RX8 30 "LeftArguments$Rows" "bags" "I") (List.mem_cons_of_mem _ (List.mem_append_left _ (List.mem_of_getElem? (i := 0) rfl)))) (fun _ h9 => h9) rfl dX8_place_6 ?_
  refine lv_icmp_ge (tgt := 18) hx hb dX8_place_9 (by decide) (fun c1 => ?_) (fun c1 => ?_)
  · skip
    have fc1 : v0.toInt ≤ 2 := Int32.le_iff_toInt_le.mp c1
    refine lv_iconst (v := 1) hx hb dX8_place_18 (by decide) ?_
    subst hQ
    have hP9 := hP.sub (ws' := (wd_1ad5b18c h0 h1 h2 h3 h4 h5 h6 v0 v1 v2 h1 g0 f3 h2 g1 f4 h3 g2 f5 h4 g3 f6 h5 g4 f7 h6 g5 f8)) [0, 1, 2, 3, 4, 5, 6] rfl
    have hD9 := hD.sub (ws' := (wd_1ad5b18c h0 h1 h2 h3 h4 h5 h6 v0 v1 v2 h1 g0 f3 h2 g1 f4 h3 g2 f5 h4 g3 f6 h5 g4 f7 h6 g5 f8)) [0, 1, 2, 3, 4, 5, 6] (by decide) rfl
    have hK9 := hK.sub (tys' := []) [] rfl
    exact W.zret (v := 1) hx hb hr rfl (fun t ht hW => ⟨⟨1, (), rfl, ⟨by first | omega | decide, by first | omega | decide⟩, f6, f7, f8, by rw [ht]; exact hP9, va_K.moved hW.alike hK9, hD9⟩, hS.F ht⟩) hS.2.2 dX8_place_19
  · skip
    have fc1 : ¬ (v0.toInt ≤ 2) := fun h9 => c1 (Int32.le_iff_toInt_le.mpr h9)
    refine lv_iload_n hx hb dX8_place_12 rfl (lv_at hl 1 rfl) ?_
    refine lv_bipush (v := 8) hx hb dX8_place_13 (by decide) ?_
    refine lv_icmp_lt (tgt := 20) hx hb dX8_place_15 (by decide) (fun _ => ?_) (fun c => absurd (by decide) c)
    refine lv_iconst (v := 0) hx hb dX8_place_20 (by decide) ?_
    refine lv_istore (lv' := [(4, .int 0), (0, .ref h0), (1, .int 2), (2, .int v9), (3, .int v10)]) hx hb dX8_place_21 hl (by decide) rfl (fun ls hl => ?_)
    have hL22 : ∀ (n9 : Nat), ∀ (x14 : Int32) (fn15 : Nat → Int32) (fn16 : Nat → Int32) (fn17 : Nat → Int32) (H : Heap) (locs : List Loc) (ls : Array Slot), 0 ≤ x14.toInt → x14.toInt ≤ 8 → (8 - x14.toInt).toNat < n9 → va_P (dC, dI) vwCl (wd_1ad5b18c h0 h1 h2 h3 h4 h5 h6 v0 v1 v2 h1 g0 f3 h2 g1 f4 h3 g2 f5 h4 g3 fn15 h5 g4 fn16 h6 g5 fn17) H → va_D A (wd_1ad5b18c h0 h1 h2 h3 h4 h5 h6 v0 v1 v2 h1 g0 f3 h2 g1 f4 h3 g2 f5 h4 g3 fn15 h5 g4 fn16 h6 g5 fn17) → va_S A s.heap H locs → lv_has ls 5 [(4, .int x14), (0, .ref h0), (1, .int 2), (2, .int v9), (3, .int v10)] → W p l e ({ frames := 6, cells := 0, slots := 0, locals := 144 }) s m ([.ref h0, .int 2, .int v9, .int v10] : List Value).toArray below meth c H locs 0 0 Q (F0 m 23 ls []) := by
      intro n9
      induction n9 with
      | zero => intro x14 fn15 fn16 fn17 H locs ls qa_x14 qb_x14 hm9 hP hD hS hl; exact absurd hm9 (Nat.not_lt_zero _)
      | succ n9 ih_hL22 =>
        intro x14 fn15 fn16 fn17 H locs ls qa_x14 qb_x14 hm9 hP hD hS hl
        refine lv_iload hx hb dX8_place_23 (lv_at hl 0 rfl) ?_
        refine lv_iload_n hx hb dX8_place_25 rfl (lv_at hl 3 rfl) ?_
        refine lv_icmp_gt (tgt := 157) hx hb dX8_place_26 (by decide) (fun c23 => ?_) (fun c23 => ?_)
        · skip
          have fc23 : v9.toInt < x14.toInt := Int32.lt_iff_toInt_lt.mp c23
          have r1c23 := Int32.toInt_lt x14
          have r2c23 := Int32.toInt_lt v9
          have r3c23 := Int32.le_toInt x14
          have r4c23 := Int32.le_toInt v9
          refine lv_iconst (v := 0) hx hb dX8_place_157 (by decide) ?_
          subst hQ
          have hP9 := hP.sub (ws' := (wd_1ad5b18c h0 h1 h2 h3 h4 h5 h6 v0 v1 v2 h1 g0 f3 h2 g1 f4 h3 g2 f5 h4 g3 fn15 h5 g4 fn16 h6 g5 fn17)) [0, 1, 2, 3, 4, 5, 6] rfl
          have hD9 := hD.sub (ws' := (wd_1ad5b18c h0 h1 h2 h3 h4 h5 h6 v0 v1 v2 h1 g0 f3 h2 g1 f4 h3 g2 f5 h4 g3 fn15 h5 g4 fn16 h6 g5 fn17)) [0, 1, 2, 3, 4, 5, 6] (by decide) rfl
          have hK9 := hK.sub (tys' := []) [] rfl
          exact W.zret (v := 0) hx hb hr rfl (fun t ht hW => ⟨⟨0, (), rfl, ⟨by first | omega | decide, by first | omega | decide⟩, fn15, fn16, fn17, by rw [ht]; exact hP9, va_K.moved hW.alike hK9, hD9⟩, hS.F ht⟩) hS.2.2 dX8_place_158
        · skip
          have fc23 : ¬ (v9.toInt < x14.toInt) := fun h9 => c23 (Int32.lt_iff_toInt_lt.mpr h9)
          have r1c23 := Int32.toInt_lt x14
          have r2c23 := Int32.toInt_lt v9
          have r3c23 := Int32.le_toInt x14
          have r4c23 := Int32.le_toInt v9
          refine lv_iload hx hb dX8_place_29 (lv_at hl 0 rfl) ?_
          refine lv_iload_n hx hb dX8_place_31 rfl (lv_at hl 4 rfl) ?_
          refine lv_icmp_ge (tgt := 157) hx hb dX8_place_32 (by decide) (fun c24 => ?_) (fun c24 => ?_)
          · skip
            have fc24 : v10.toInt ≤ x14.toInt := Int32.le_iff_toInt_le.mp c24
            have r1c24 := Int32.toInt_lt x14
            have r2c24 := Int32.toInt_lt v10
            have r3c24 := Int32.le_toInt x14
            have r4c24 := Int32.le_toInt v10
            refine lv_iconst (v := 0) hx hb dX8_place_157 (by decide) ?_
            subst hQ
            have hP9 := hP.sub (ws' := (wd_1ad5b18c h0 h1 h2 h3 h4 h5 h6 v0 v1 v2 h1 g0 f3 h2 g1 f4 h3 g2 f5 h4 g3 fn15 h5 g4 fn16 h6 g5 fn17)) [0, 1, 2, 3, 4, 5, 6] rfl
            have hD9 := hD.sub (ws' := (wd_1ad5b18c h0 h1 h2 h3 h4 h5 h6 v0 v1 v2 h1 g0 f3 h2 g1 f4 h3 g2 f5 h4 g3 fn15 h5 g4 fn16 h6 g5 fn17)) [0, 1, 2, 3, 4, 5, 6] (by decide) rfl
            have hK9 := hK.sub (tys' := []) [] rfl
            exact W.zret (v := 0) hx hb hr rfl (fun t ht hW => ⟨⟨0, (), rfl, ⟨by first | omega | decide, by first | omega | decide⟩, fn15, fn16, fn17, by rw [ht]; exact hP9, va_K.moved hW.alike hK9, hD9⟩, hS.F ht⟩) hS.2.2 dX8_place_158
          · skip
            have fc24 : ¬ (v10.toInt ≤ x14.toInt) := fun h9 => c24 (Int32.le_iff_toInt_le.mpr h9)
            have r1c24 := Int32.toInt_lt x14
            have r2c24 := Int32.toInt_lt v10
            have r3c24 := Int32.le_toInt x14
            have r4c24 := Int32.le_toInt v10
            refine lv_iload hx hb dX8_place_35 (lv_at hl 0 rfl) ?_
            refine lv_bipush (v := 8) hx hb dX8_place_37 (by decide) ?_
            refine lv_icmp_ge (tgt := 157) hx hb dX8_place_39 (by decide) (fun c25 => ?_) (fun c25 => ?_)
            · skip
              have fc25 : 8 ≤ x14.toInt := Int32.le_iff_toInt_le.mp c25
              refine lv_iconst (v := 0) hx hb dX8_place_157 (by decide) ?_
              subst hQ
              have hP9 := hP.sub (ws' := (wd_1ad5b18c h0 h1 h2 h3 h4 h5 h6 v0 v1 v2 h1 g0 f3 h2 g1 f4 h3 g2 f5 h4 g3 fn15 h5 g4 fn16 h6 g5 fn17)) [0, 1, 2, 3, 4, 5, 6] rfl
              have hD9 := hD.sub (ws' := (wd_1ad5b18c h0 h1 h2 h3 h4 h5 h6 v0 v1 v2 h1 g0 f3 h2 g1 f4 h3 g2 f5 h4 g3 fn15 h5 g4 fn16 h6 g5 fn17)) [0, 1, 2, 3, 4, 5, 6] (by decide) rfl
              have hK9 := hK.sub (tys' := []) [] rfl
              exact W.zret (v := 0) hx hb hr rfl (fun t ht hW => ⟨⟨0, (), rfl, ⟨by first | omega | decide, by first | omega | decide⟩, fn15, fn16, fn17, by rw [ht]; exact hP9, va_K.moved hW.alike hK9, hD9⟩, hS.F ht⟩) hS.2.2 dX8_place_158
            · skip
              have fc25 : ¬ (8 ≤ x14.toInt) := fun h9 => c25 (Int32.le_iff_toInt_le.mpr h9)
              refine lv_aload_n hx hb dX8_place_42 rfl (lv_at hl 1 rfl) ?_
              refine lv_iload_n hx hb dX8_place_43 rfl (lv_at hl 2 rfl) ?_
              refine lv_iload hx hb dX8_place_44 (lv_at hl 0 rfl) ?_
              have hPc := hP.sub (ws' := (wd_62728821 h0 h1 h2 h3 h4 h5 h6 v0 v1 v2 h1 g0 f3 h2 g1 f4 h5 g4 fn16 h6 g5 fn17)) [0, 1, 2, 5, 6] rfl
              have hDc := hD.sub (ws' := (wd_62728821 h0 h1 h2 h3 h4 h5 h6 v0 v1 v2 h1 g0 f3 h2 g1 f4 h5 g4 fn16 h6 g5 fn17)) [0, 1, 2, 5, 6] (by decide) rfl
              have hKc := hK.sub (tys' := [(g0, .int), (g1, .int), (g4, .int), (g5, .int)]) [0, 1, 4, 5] rfl
              have hFc := va_free (wc := (wd_62728821 h0 h1 h2 h3 h4 h5 h6 v0 v1 v2 h1 g0 f3 h2 g1 f4 h5 g4 fn16 h6 g5 fn17)) hD hS hA [0, 1, 2, 5, 6] rfl
              refine va_calli (va_runV (As := [.int 2, .int x14]) (rest := []) ⟨hx, hb, hml, hown, hts⟩ (k_X8_standsWell l dC dI h0 h1 h2 h5 h6 h3 h4 v0 v1 v2 g0 f3 g1 f4 g4 fn16 g5 fn17 2 x14 ⟨i_v2a, i_v2b⟩ H.size) (cwV 2 hts g_X8_place_6_0 rfl rfl rfl (by decide +kernel) ⟨Nat.le_of_ble_eq_true rfl, Nat.le_of_ble_eq_true rfl⟩) (pv_PV8 hPc hKc hDc (q0 := 0) rfl) rfl rfl hl.1 rfl (lv_room (Nat.le_of_ble_eq_true rfl)) dX8_place_46 ⟨Nat.le_of_ble_eq_true rfl, Nat.le_of_ble_eq_true rfl⟩) hS (fun q _ h => hFc q h) hFc (fun ra26 u t H1 locs ht hvm hwra26 hB hz1 hk1 hS => ?_)
              obtain ⟨hP1, hK1, hD1⟩ := hB
              rw [ht] at hP1
              obtain ⟨hP2, hD2⟩ := va_join (wr := (wd_c3b6304c h3 g2 f5 h4 g3 fn15)) (w1 := (wd_62728821 h0 h1 h2 h3 h4 h5 h6 v0 v1 v2 h1 g0 f3 h2 g1 f4 h5 g4 fn16 h6 g5 fn17)) hP hD [0, 1, 2, 5, 6] [3, 4] rfl rfl (by decide) (by decide) hk1 hFc hP1 hD1
              clear hP hD hPc hDc hKc hFc hP1 hK1 hD1 hk1 hz1
              generalize H1 = H at hP2 hS ⊢
              have hP := hP2.sub (ws' := (wd_1ad5b18c h0 h1 h2 h3 h4 h5 h6 v0 v1 v2 h1 g0 f3 h2 g1 f4 h3 g2 f5 h4 g3 fn15 h5 g4 fn16 h6 g5 fn17)) [2, 3, 4, 0, 1, 5, 6] rfl
              have hD := hD2.sub (ws' := (wd_1ad5b18c h0 h1 h2 h3 h4 h5 h6 v0 v1 v2 h1 g0 f3 h2 g1 f4 h3 g2 f5 h4 g3 fn15 h5 g4 fn16 h6 g5 fn17)) [2, 3, 4, 0, 1, 5, 6] (by decide) rfl
              clear hP2 hD2
              obtain ⟨wa_ra26, wb_ra26⟩ := hwra26
              have wa_ra26 : 0 ≤ ra26.toInt := wa_ra26
              have wb_ra26 : ra26.toInt ≤ 1 := wb_ra26
              refine lv_if_eq (tgt := 151) hx hb dX8_place_49 (by decide) (fun c27 => ?_) (fun c27 => ?_)
              · skip
                have fc27 : ra26.toInt = 0 := congrArg Int32.toInt c27
                obtain ⟨t28, et28⟩ : ∃ y : Int32, y = x14 + 1 := ⟨_, rfl⟩
                have gt28 : t28.toInt = x14.toInt + (1) := pv_add (a := x14.toInt) (b := (1)) et28 rfl (by decide) (by omega) (by omega)
                refine lv_iinc (v := t28) (lv' := [(4, .int t28), (0, .ref h0), (1, .int 2), (2, .int v9), (3, .int v10)]) hx hb dX8_place_151 hl (k := 0) rfl (by rw [et28]; rfl) (by decide) rfl (fun ls hl => ?_)
                refine lv_goto (tgt := 23) hx hb dX8_place_154 (by decide) ?_
                exact ih_hL22 t28 fn15 fn16 fn17 H locs ls (by first | omega | decide) (by first | omega | decide) (by first | omega | (simp only [Int.toNat] at *; omega)) hP hD hS (lv_sub hl [0, 1, 2, 3, 4] rfl)
              · skip
                have fc27 : ¬ (ra26.toInt = 0) := fun h9 => c27 (Int32.toInt_inj.mp h9)
                refine lv_aload_n hx hb dX8_place_52 rfl (lv_at hl 1 rfl) ?_
                refine va_get (D := (dC, dI)) (ci := 8) (v := .ref h4) (C := RX8) (T := TX8) (N := 9) hx hb hts (fun _ h => List.mem_cons_of_mem _ (List.mem_append_right _ h)) hown hK hP 0 rfl rfl 3 (by decide) (hts (.fieldLink RX8 21 "LeftArguments$Rows" "chosen" "[I") (List.mem_cons_of_mem _ (List.mem_append_left _ (List.mem_of_getElem? (i := 12) rfl)))) (fun _ h9 => h9) rfl dX8_place_53 ?_
                refine lv_iload_n hx hb dX8_place_56 rfl (lv_at hl 2 rfl) ?_
                refine lv_iload hx hb dX8_place_57 (lv_at hl 0 rfl) ?_
                refine va_iast hx hb hK hP hD hS 4 3 rfl rfl (pv_c (x := 2) (n := 8) (by decide)) dX8_place_59 (fun H locs hP hD hS => ?_)
                obtain ⟨fn29, efn29⟩ : ∃ g : Nat → Int32, g = upd fn15 (Int32.toNatClampNeg 2) x14 := ⟨_, rfl⟩
                rw [← efn29] at hP hD
                have hP : va_P (dC, dI) vwCl (wd_1ad5b18c h0 h1 h2 h3 h4 h5 h6 v0 v1 v2 h1 g0 f3 h2 g1 f4 h3 g2 f5 h4 g3 fn29 h5 g4 fn16 h6 g5 fn17) H := hP
                have hD : va_D A (wd_1ad5b18c h0 h1 h2 h3 h4 h5 h6 v0 v1 v2 h1 g0 f3 h2 g1 f4 h3 g2 f5 h4 g3 fn29 h5 g4 fn16 h6 g5 fn17) := hD
                refine lv_aload_n hx hb dX8_place_60 rfl (lv_at hl 1 rfl) ?_
                refine va_get (D := (dC, dI)) (ci := 8) (v := .ref h5) (C := RX8) (T := TX8) (N := 9) hx hb hts (fun _ h => List.mem_cons_of_mem _ (List.mem_append_right _ h)) hown hK hP 0 rfl rfl 4 (by decide) (hts (.fieldLink RX8 24 "LeftArguments$Rows" "loads" "[I") (List.mem_cons_of_mem _ (List.mem_append_left _ (List.mem_of_getElem? (i := 5) rfl)))) (fun _ h9 => h9) rfl dX8_place_61 ?_
                refine lv_iload hx hb dX8_place_64 (lv_at hl 0 rfl) ?_
                refine lv_dup2_11 hx hb dX8_place_66 rfl rfl ?_
                refine va_iald hx hb hK hP 5 4 rfl rfl (vp_in_iff.mpr ⟨by omega, by omega⟩) dX8_place_67 ?_
                refine lv_topi (fun t30 et30 => ?_)
                refine lv_aload_n hx hb dX8_place_68 rfl (lv_at hl 1 rfl) ?_
                refine va_get (D := (dC, dI)) (ci := 8) (v := .ref h1) (C := RX8) (T := TX8) (N := 9) hx hb hts (fun _ h => List.mem_cons_of_mem _ (List.mem_append_right _ h)) hown hK hP 0 rfl rfl 0 (by decide) (hts (.fieldLink RX8 9 "LeftArguments$Rows" "sizes" "[I") (List.mem_cons_of_mem _ (List.mem_append_left _ (List.mem_of_getElem? (i := 6) rfl)))) (fun _ h9 => h9) rfl dX8_place_69 ?_
                refine lv_iload_n hx hb dX8_place_72 rfl (lv_at hl 2 rfl) ?_
                refine va_iald hx hb hK hP 1 0 rfl rfl (pv_c (x := 2) (n := 8) (by decide)) dX8_place_73 ?_
                refine lv_topi (fun t31 et31 => ?_)
                refine lv_iadd hx hb dX8_place_74 ?_
                refine lv_topi (fun t32 et32 => ?_)
                refine va_iast hx hb hK hP hD hS 5 4 rfl rfl (vp_in_iff.mpr ⟨by omega, by omega⟩) dX8_place_75 (fun H locs hP hD hS => ?_)
                obtain ⟨fn33, efn33⟩ : ∃ g : Nat → Int32, g = upd fn16 (Int32.toNatClampNeg x14) t32 := ⟨_, rfl⟩
                rw [← efn33] at hP hD
                have hP : va_P (dC, dI) vwCl (wd_1ad5b18c h0 h1 h2 h3 h4 h5 h6 v0 v1 v2 h1 g0 f3 h2 g1 f4 h3 g2 f5 h4 g3 fn29 h5 g4 fn33 h6 g5 fn17) H := hP
                have hD : va_D A (wd_1ad5b18c h0 h1 h2 h3 h4 h5 h6 v0 v1 v2 h1 g0 f3 h2 g1 f4 h3 g2 f5 h4 g3 fn29 h5 g4 fn33 h6 g5 fn17) := hD
                refine lv_aload_n hx hb dX8_place_76 rfl (lv_at hl 1 rfl) ?_
                refine va_get (D := (dC, dI)) (ci := 8) (v := .ref h6) (C := RX8) (T := TX8) (N := 9) hx hb hts (fun _ h => List.mem_cons_of_mem _ (List.mem_append_right _ h)) hown hK hP 0 rfl rfl 5 (by decide) (hts (.fieldLink RX8 27 "LeftArguments$Rows" "standing" "[I") (List.mem_cons_of_mem _ (List.mem_append_left _ (List.mem_of_getElem? (i := 3) rfl)))) (fun _ h9 => h9) rfl dX8_place_77 ?_
                refine lv_iload hx hb dX8_place_80 (lv_at hl 0 rfl) ?_
                refine lv_dup2_11 hx hb dX8_place_82 rfl rfl ?_
                refine va_iald hx hb hK hP 6 5 rfl rfl (vp_in_iff.mpr ⟨by omega, by omega⟩) dX8_place_83 ?_
                refine lv_topi (fun t34 et34 => ?_)
                refine lv_iconst (v := 1) hx hb dX8_place_84 (by decide) ?_
                refine lv_aload_n hx hb dX8_place_85 rfl (lv_at hl 1 rfl) ?_
                refine va_get (D := (dC, dI)) (ci := 8) (v := .ref h3) (C := RX8) (T := TX8) (N := 9) hx hb hts (fun _ h => List.mem_cons_of_mem _ (List.mem_append_right _ h)) hown hK hP 0 rfl rfl 2 (by decide) (hts (.fieldLink RX8 18 "LeftArguments$Rows" "places" "[I") (List.mem_cons_of_mem _ (List.mem_append_left _ (List.mem_of_getElem? (i := 13) rfl)))) (fun _ h9 => h9) rfl dX8_place_86 ?_
                refine lv_iload_n hx hb dX8_place_89 rfl (lv_at hl 2 rfl) ?_
                refine va_iald hx hb hK hP 3 2 rfl rfl (pv_c (x := 2) (n := 8) (by decide)) dX8_place_90 ?_
                refine lv_topi (fun t35 et35 => ?_)
                refine lv_ishl hx hb dX8_place_91 ?_
                refine lv_topi (fun t36 et36 => ?_)
                refine lv_ior hx hb dX8_place_92 ?_
                refine lv_topi (fun t37 et37 => ?_)
                refine va_iast hx hb hK hP hD hS 6 5 rfl rfl (vp_in_iff.mpr ⟨by omega, by omega⟩) dX8_place_93 (fun H locs hP hD hS => ?_)
                obtain ⟨fn38, efn38⟩ : ∃ g : Nat → Int32, g = upd fn17 (Int32.toNatClampNeg x14) t37 := ⟨_, rfl⟩
                rw [← efn38] at hP hD
                have hP : va_P (dC, dI) vwCl (wd_1ad5b18c h0 h1 h2 h3 h4 h5 h6 v0 v1 v2 h1 g0 f3 h2 g1 f4 h3 g2 f5 h4 g3 fn29 h5 g4 fn33 h6 g5 fn38) H := hP
                have hD : va_D A (wd_1ad5b18c h0 h1 h2 h3 h4 h5 h6 v0 v1 v2 h1 g0 f3 h2 g1 f4 h3 g2 f5 h4 g3 fn29 h5 g4 fn33 h6 g5 fn38) := hD
                refine lv_aload_n hx hb dX8_place_94 rfl (lv_at hl 1 rfl) ?_
                refine lv_iload_n hx hb dX8_place_95 rfl (lv_at hl 2 rfl) ?_
                refine lv_iconst (v := 1) hx hb dX8_place_96 (by decide) ?_
                refine lv_iadd hx hb dX8_place_97 ?_
                refine lv_topi (fun tv39 etv39 => ?_)
                obtain rfl : tv39 = (3 : Int32) := etv39.trans (by first | rfl | decide)
                refine lv_iload_n hx hb dX8_place_98 rfl (lv_at hl 3 rfl) ?_
                refine lv_iload hx hb dX8_place_99 (lv_at hl 0 rfl) ?_
                refine lv_iconst (v := 1) hx hb dX8_place_101 (by decide) ?_
                refine lv_iadd hx hb dX8_place_102 ?_
                refine lv_topi (fun t40 et40 => ?_)
                have gt40 : t40.toInt = x14.toInt + 1 := pv_add (a := x14.toInt) (b := 1) et40 rfl (by decide) (by omega) (by omega)
                refine va_mmax hx hb (by rw [hml]; exact hl.1.symm) hown (hts (.methodLink RX8 72 Lib.Math.max.name) (List.mem_cons_of_mem _ (List.mem_append_left _ (List.mem_of_getElem? (i := 14) rfl)))) (hts (.static Lib.Math.max.name) (List.mem_cons_of_mem _ (List.mem_append_left _ (List.mem_of_getElem? (i := 15) rfl)))) (hts (.initialized "java/lang/Math") (List.mem_cons_of_mem _ (List.mem_append_left _ (List.mem_of_getElem? (i := 16) rfl)))) (hts (.code Lib.Math.max.name Lib.Math.max.code 2 (some .int)) (List.mem_cons_of_mem _ (List.mem_append_left _ (List.mem_of_getElem? (i := 17) rfl)))) (Nat.le_of_ble_eq_true rfl) (Nat.le_of_ble_eq_true rfl) (Nat.le_of_ble_eq_true rfl) (Nat.le_of_ble_eq_true rfl) dX8_place_103 ?_
                refine lv_topi (fun t41 et41 => ?_)
                obtain ⟨gat41, gbt41, gct41⟩ := pv_max (a := v9.toInt) (b := t40.toInt) et41 rfl rfl
                refine lv_iload_n hx hb dX8_place_106 rfl (lv_at hl 4 rfl) ?_
                have hPc := hP.sub (ws' := (wd_1ad5b18c h0 h1 h2 h3 h4 h5 h6 v0 v1 v2 h1 g0 f3 h2 g1 f4 h3 g2 f5 h4 g3 fn29 h5 g4 fn33 h6 g5 fn38)) [0, 1, 2, 3, 4, 5, 6] rfl
                have hDc := hD.sub (ws' := (wd_1ad5b18c h0 h1 h2 h3 h4 h5 h6 v0 v1 v2 h1 g0 f3 h2 g1 f4 h3 g2 f5 h4 g3 fn29 h5 g4 fn33 h6 g5 fn38)) [0, 1, 2, 3, 4, 5, 6] (by decide) rfl
                have hKc := hK.sub (tys' := [(g0, .int), (g1, .int), (g2, .int), (g3, .int), (g4, .int), (g5, .int)]) [0, 1, 2, 3, 4, 5] rfl
                have hFc := va_free (wc := (wd_1ad5b18c h0 h1 h2 h3 h4 h5 h6 v0 v1 v2 h1 g0 f3 h2 g1 f4 h3 g2 f5 h4 g3 fn29 h5 g4 fn33 h6 g5 fn38)) hD hS hA [0, 1, 2, 3, 4, 5, 6] rfl
                refine va_calli (va_runV (As := [.int 3, .int t41, .int v10]) (rest := []) ⟨hx, hb, hml, hown, hts⟩ (k_X8_place_5 l dC dI h0 h1 h2 h3 h4 h5 h6 v0 v1 v2 g0 f3 g1 f4 g2 f5 g3 fn29 g4 fn33 g5 fn38 t41 v10 ⟨i_v2a, i_v2b⟩ H.size) (cwV 3 hts g_X8_place_6_1 rfl rfl rfl (by decide +kernel) ⟨Nat.le_of_ble_eq_true rfl, Nat.le_of_ble_eq_true rfl⟩) (pv_PV8 hPc hKc hDc (q0 := 0) rfl) rfl rfl hl.1 rfl (lv_room (Nat.le_of_ble_eq_true rfl)) dX8_place_107 ⟨Nat.le_of_ble_eq_true rfl, Nat.le_of_ble_eq_true rfl⟩) hS (fun q _ h => hFc q h) hFc (fun ra42 u t H1 locs ht hvm hwra42 hB hz1 hk1 hS => ?_)
                obtain ⟨fn43, fn44, fn45, hP1, hK1, hD1⟩ := hB
                rw [ht] at hP1
                obtain ⟨hP2, hD2⟩ := va_join (wr := []) (w1 := (wd_1ad5b18c h0 h1 h2 h3 h4 h5 h6 v0 v1 v2 h1 g0 f3 h2 g1 f4 h3 g2 f5 h4 g3 fn43 h5 g4 fn44 h6 g5 fn45)) hP hD [0, 1, 2, 3, 4, 5, 6] [] rfl rfl (by decide) (by decide) hk1 hFc hP1 hD1
                clear hP hD hPc hDc hKc hFc hP1 hK1 hD1 hk1 hz1
                generalize H1 = H at hP2 hS ⊢
                have hP : va_P (dC, dI) vwCl (wd_1ad5b18c h0 h1 h2 h3 h4 h5 h6 v0 v1 v2 h1 g0 f3 h2 g1 f4 h3 g2 f5 h4 g3 fn43 h5 g4 fn44 h6 g5 fn45) H := hP2
                have hD : va_D A (wd_1ad5b18c h0 h1 h2 h3 h4 h5 h6 v0 v1 v2 h1 g0 f3 h2 g1 f4 h3 g2 f5 h4 g3 fn43 h5 g4 fn44 h6 g5 fn45) := hD2
                clear hP2 hD2
                obtain ⟨wa_ra42, wb_ra42⟩ := hwra42
                have wa_ra42 : 0 ≤ ra42.toInt := wa_ra42
                have wb_ra42 : ra42.toInt ≤ 1 := wb_ra42
                refine lv_if_eq (tgt := 115) hx hb dX8_place_110 (by decide) (fun c46 => ?_) (fun c46 => ?_)
                · skip
                  have fc46 : ra42.toInt = 0 := congrArg Int32.toInt c46
                  refine lv_aload_n hx hb dX8_place_115 rfl (lv_at hl 1 rfl) ?_
                  refine va_get (D := (dC, dI)) (ci := 8) (v := .ref h5) (C := RX8) (T := TX8) (N := 9) hx hb hts (fun _ h => List.mem_cons_of_mem _ (List.mem_append_right _ h)) hown hK hP 0 rfl rfl 4 (by decide) (hts (.fieldLink RX8 24 "LeftArguments$Rows" "loads" "[I") (List.mem_cons_of_mem _ (List.mem_append_left _ (List.mem_of_getElem? (i := 5) rfl)))) (fun _ h9 => h9) rfl dX8_place_116 ?_
                  refine lv_iload hx hb dX8_place_119 (lv_at hl 0 rfl) ?_
                  refine lv_dup2_11 hx hb dX8_place_121 rfl rfl ?_
                  refine va_iald hx hb hK hP 5 4 rfl rfl (vp_in_iff.mpr ⟨by omega, by omega⟩) dX8_place_122 ?_
                  refine lv_topi (fun t47 et47 => ?_)
                  refine lv_aload_n hx hb dX8_place_123 rfl (lv_at hl 1 rfl) ?_
                  refine va_get (D := (dC, dI)) (ci := 8) (v := .ref h1) (C := RX8) (T := TX8) (N := 9) hx hb hts (fun _ h => List.mem_cons_of_mem _ (List.mem_append_right _ h)) hown hK hP 0 rfl rfl 0 (by decide) (hts (.fieldLink RX8 9 "LeftArguments$Rows" "sizes" "[I") (List.mem_cons_of_mem _ (List.mem_append_left _ (List.mem_of_getElem? (i := 6) rfl)))) (fun _ h9 => h9) rfl dX8_place_124 ?_
                  refine lv_iload_n hx hb dX8_place_127 rfl (lv_at hl 2 rfl) ?_
                  refine va_iald hx hb hK hP 1 0 rfl rfl (pv_c (x := 2) (n := 8) (by decide)) dX8_place_128 ?_
                  refine lv_topi (fun t48 et48 => ?_)
                  refine lv_isub hx hb dX8_place_129 ?_
                  refine lv_topi (fun t49 et49 => ?_)
                  refine va_iast hx hb hK hP hD hS 5 4 rfl rfl (vp_in_iff.mpr ⟨by omega, by omega⟩) dX8_place_130 (fun H locs hP hD hS => ?_)
                  obtain ⟨fn50, efn50⟩ : ∃ g : Nat → Int32, g = upd fn44 (Int32.toNatClampNeg x14) t49 := ⟨_, rfl⟩
                  rw [← efn50] at hP hD
                  have hP : va_P (dC, dI) vwCl (wd_1ad5b18c h0 h1 h2 h3 h4 h5 h6 v0 v1 v2 h1 g0 f3 h2 g1 f4 h3 g2 f5 h4 g3 fn43 h5 g4 fn50 h6 g5 fn45) H := hP
                  have hD : va_D A (wd_1ad5b18c h0 h1 h2 h3 h4 h5 h6 v0 v1 v2 h1 g0 f3 h2 g1 f4 h3 g2 f5 h4 g3 fn43 h5 g4 fn50 h6 g5 fn45) := hD
                  refine lv_aload_n hx hb dX8_place_131 rfl (lv_at hl 1 rfl) ?_
                  refine va_get (D := (dC, dI)) (ci := 8) (v := .ref h6) (C := RX8) (T := TX8) (N := 9) hx hb hts (fun _ h => List.mem_cons_of_mem _ (List.mem_append_right _ h)) hown hK hP 0 rfl rfl 5 (by decide) (hts (.fieldLink RX8 27 "LeftArguments$Rows" "standing" "[I") (List.mem_cons_of_mem _ (List.mem_append_left _ (List.mem_of_getElem? (i := 3) rfl)))) (fun _ h9 => h9) rfl dX8_place_132 ?_
                  refine lv_iload hx hb dX8_place_135 (lv_at hl 0 rfl) ?_
                  refine lv_dup2_11 hx hb dX8_place_137 rfl rfl ?_
                  refine va_iald hx hb hK hP 6 5 rfl rfl (vp_in_iff.mpr ⟨by omega, by omega⟩) dX8_place_138 ?_
                  refine lv_topi (fun t51 et51 => ?_)
                  refine lv_iconst (v := 1) hx hb dX8_place_139 (by decide) ?_
                  refine lv_aload_n hx hb dX8_place_140 rfl (lv_at hl 1 rfl) ?_
                  refine va_get (D := (dC, dI)) (ci := 8) (v := .ref h3) (C := RX8) (T := TX8) (N := 9) hx hb hts (fun _ h => List.mem_cons_of_mem _ (List.mem_append_right _ h)) hown hK hP 0 rfl rfl 2 (by decide) (hts (.fieldLink RX8 18 "LeftArguments$Rows" "places" "[I") (List.mem_cons_of_mem _ (List.mem_append_left _ (List.mem_of_getElem? (i := 13) rfl)))) (fun _ h9 => h9) rfl dX8_place_141 ?_
                  refine lv_iload_n hx hb dX8_place_144 rfl (lv_at hl 2 rfl) ?_
                  refine va_iald hx hb hK hP 3 2 rfl rfl (pv_c (x := 2) (n := 8) (by decide)) dX8_place_145 ?_
                  refine lv_topi (fun t52 et52 => ?_)
                  refine lv_ishl hx hb dX8_place_146 ?_
                  refine lv_topi (fun t53 et53 => ?_)
                  refine lv_iconst (v := (-1)) hx hb dX8_place_147 (by decide) ?_
                  refine lv_ixor hx hb dX8_place_148 ?_
                  refine lv_topi (fun t54 et54 => ?_)
                  refine lv_iand hx hb dX8_place_149 ?_
                  refine lv_topi (fun t55 et55 => ?_)
                  refine va_iast hx hb hK hP hD hS 6 5 rfl rfl (vp_in_iff.mpr ⟨by omega, by omega⟩) dX8_place_150 (fun H locs hP hD hS => ?_)
                  obtain ⟨fn56, efn56⟩ : ∃ g : Nat → Int32, g = upd fn45 (Int32.toNatClampNeg x14) t55 := ⟨_, rfl⟩
                  rw [← efn56] at hP hD
                  have hP : va_P (dC, dI) vwCl (wd_1ad5b18c h0 h1 h2 h3 h4 h5 h6 v0 v1 v2 h1 g0 f3 h2 g1 f4 h3 g2 f5 h4 g3 fn43 h5 g4 fn50 h6 g5 fn56) H := hP
                  have hD : va_D A (wd_1ad5b18c h0 h1 h2 h3 h4 h5 h6 v0 v1 v2 h1 g0 f3 h2 g1 f4 h3 g2 f5 h4 g3 fn43 h5 g4 fn50 h6 g5 fn56) := hD
                  obtain ⟨t57, et57⟩ : ∃ y : Int32, y = x14 + 1 := ⟨_, rfl⟩
                  have gt57 : t57.toInt = x14.toInt + (1) := pv_add (a := x14.toInt) (b := (1)) et57 rfl (by decide) (by omega) (by omega)
                  refine lv_iinc (v := t57) (lv' := [(4, .int t57), (0, .ref h0), (1, .int 2), (2, .int v9), (3, .int v10)]) hx hb dX8_place_151 hl (k := 0) rfl (by rw [et57]; rfl) (by decide) rfl (fun ls hl => ?_)
                  refine lv_goto (tgt := 23) hx hb dX8_place_154 (by decide) ?_
                  exact ih_hL22 t57 fn43 fn50 fn56 H locs ls (by first | omega | decide) (by first | omega | decide) (by first | omega | (simp only [Int.toNat] at *; omega)) hP hD hS (lv_sub hl [0, 1, 2, 3, 4] rfl)
                · skip
                  have fc46 : ¬ (ra42.toInt = 0) := fun h9 => c46 (Int32.toInt_inj.mp h9)
                  refine lv_iconst (v := 1) hx hb dX8_place_113 (by decide) ?_
                  subst hQ
                  have hP9 := hP.sub (ws' := (wd_1ad5b18c h0 h1 h2 h3 h4 h5 h6 v0 v1 v2 h1 g0 f3 h2 g1 f4 h3 g2 f5 h4 g3 fn43 h5 g4 fn44 h6 g5 fn45)) [0, 1, 2, 3, 4, 5, 6] rfl
                  have hD9 := hD.sub (ws' := (wd_1ad5b18c h0 h1 h2 h3 h4 h5 h6 v0 v1 v2 h1 g0 f3 h2 g1 f4 h3 g2 f5 h4 g3 fn43 h5 g4 fn44 h6 g5 fn45)) [0, 1, 2, 3, 4, 5, 6] (by decide) rfl
                  have hK9 := hK.sub (tys' := []) [] rfl
                  exact W.zret (v := 1) hx hb hr rfl (fun t ht hW => ⟨⟨1, (), rfl, ⟨by first | omega | decide, by first | omega | decide⟩, fn43, fn44, fn45, by rw [ht]; exact hP9, va_K.moved hW.alike hK9, hD9⟩, hS.F ht⟩) hS.2.2 dX8_place_114
    exact hL22 _ 0 f6 f7 f8 H locs ls (by decide) (by decide) (Nat.lt_succ_self _) hP hD hS (lv_sub hl [0, 1, 2, 3, 4] rfl)
def q_X8_place_7 : List Cond := .code yX8_place cX8_place 5 (some .boolean) :: (([.fieldLink RX8 30 "LeftArguments$Rows" "bags" "I", .code yX8_standsWell cX8_standsWell 3 (some .boolean), .fieldLink RX8 37 "LeftArguments$Rows" "byRoom" "Z", .fieldLink RX8 27 "LeftArguments$Rows" "standing" "[I", .fieldLink RX8 15 "LeftArguments$Rows" "circles" "[I", .fieldLink RX8 24 "LeftArguments$Rows" "loads" "[I", .fieldLink RX8 9 "LeftArguments$Rows" "sizes" "[I", .fieldLink RX8 34 "LeftArguments$Rows" "wide" "I", .initialized RX8, .instanceMethod yX8_standsWell, .selects RX8 yX8_standsWell yX8_standsWell, .methodLink RX8 68 yX8_standsWell, .fieldLink RX8 21 "LeftArguments$Rows" "chosen" "[I", .fieldLink RX8 18 "LeftArguments$Rows" "places" "[I", .methodLink RX8 72 Lib.Math.max.name, .static Lib.Math.max.name, .initialized "java/lang/Math", .code Lib.Math.max.name Lib.Math.max.code 2 (some .int), .code yX8_place cX8_place 5 (some .boolean), .instanceMethod yX8_place, .selects RX8 yX8_place yX8_place, .methodLink RX8 64 yX8_place] : List Cond) ++ wsX80)
set_option maxRecDepth 20000 in
theorem g_X8_place_7_0 : GoodIn q_X8_place_7 (wsV RX8 68 RX8 yX8_standsWell q_X8_standsWell) := goodIn_app (goodIn_r _ [12, 10, 11, 9] rfl (by decide +kernel)) (goodIn_ca (goodIn_r (.code yX8_standsWell cX8_standsWell 3 (some .boolean) :: [.fieldLink RX8 37 "LeftArguments$Rows" "byRoom" "Z", .fieldLink RX8 27 "LeftArguments$Rows" "standing" "[I", .fieldLink RX8 15 "LeftArguments$Rows" "circles" "[I", .fieldLink RX8 24 "LeftArguments$Rows" "loads" "[I", .fieldLink RX8 9 "LeftArguments$Rows" "sizes" "[I", .fieldLink RX8 34 "LeftArguments$Rows" "wide" "I"]) [2, 3, 4, 5, 6, 7, 8] rfl (by decide +kernel)) (goodIn_sub (fun _ h => List.mem_cons_of_mem _ (List.mem_append_right _ h)) gwX8))
set_option maxRecDepth 20000 in
theorem g_X8_place_7_1 : GoodIn q_X8_place_7 (wsV RX8 64 RX8 yX8_place q_X8_place_6) := goodIn_app (goodIn_r _ [22, 20, 21, 9] rfl (by decide +kernel)) (goodIn_ca (goodIn_r (.code yX8_place cX8_place 5 (some .boolean) :: [.fieldLink RX8 30 "LeftArguments$Rows" "bags" "I", .code yX8_standsWell cX8_standsWell 3 (some .boolean), .fieldLink RX8 37 "LeftArguments$Rows" "byRoom" "Z", .fieldLink RX8 27 "LeftArguments$Rows" "standing" "[I", .fieldLink RX8 15 "LeftArguments$Rows" "circles" "[I", .fieldLink RX8 24 "LeftArguments$Rows" "loads" "[I", .fieldLink RX8 9 "LeftArguments$Rows" "sizes" "[I", .fieldLink RX8 34 "LeftArguments$Rows" "wide" "I", .initialized RX8, .instanceMethod yX8_standsWell, .selects RX8 yX8_standsWell yX8_standsWell, .methodLink RX8 68 yX8_standsWell, .fieldLink RX8 21 "LeftArguments$Rows" "chosen" "[I", .fieldLink RX8 18 "LeftArguments$Rows" "places" "[I", .methodLink RX8 72 Lib.Math.max.name, .static Lib.Math.max.name, .initialized "java/lang/Math", .code Lib.Math.max.name Lib.Math.max.code 2 (some .int), .code yX8_place cX8_place 5 (some .boolean), .instanceMethod yX8_place, .selects RX8 yX8_place yX8_place, .methodLink RX8 64 yX8_place]) [19, 1, 2, 3, 4, 5, 6, 7, 8, 9, 10, 11, 12, 13, 14, 15, 16, 17, 18, 19, 20, 21, 22] rfl (by decide +kernel)) (goodIn_sub (fun _ h => List.mem_cons_of_mem _ (List.mem_append_right _ h)) gwX8))
set_option maxHeartbeats 4000000 in
set_option maxRecDepth 100000 in
theorem k_X8_place_7 (l : Launch) (dC : Nat → ClassId) (dI : Nat → Nat → Nat) (h0 : Nat) (h1 : Nat) (h2 : Nat) (h3 : Nat) (h4 : Nat) (h5 : Nat) (h6 : Nat) (v0 : Int32) (v1 : Int32) (v2 : Int32) (g0 : ClassId) (f3 : Nat → Int32) (g1 : ClassId) (f4 : Nat → Int32) (g2 : ClassId) (f5 : Nat → Int32) (g3 : ClassId) (f6 : Nat → Int32) (g4 : ClassId) (f7 : Nat → Int32) (g5 : ClassId) (f8 : Nat → Int32) (v9 : Int32) (v10 : Int32) (i_v2 : 0 ≤ v2.toInt ∧ v2.toInt ≤ 1) (sz : Nat) : Met l yX8_place q_X8_place_7 ({ frames := 7, cells := 0, slots := 0, locals := 168 }) (va_Pc [.ref h0, .int 1, .int v9, .int v10] (fun U => U.heap.size = sz ∧ va_P (dC, dI) vwCl (wd_1ad5b18c h0 h1 h2 h3 h4 h5 h6 v0 v1 v2 h1 g0 f3 h2 g1 f4 h3 g2 f5 h4 g3 f6 h5 g4 f7 h6 g5 f8) U.heap ∧ va_K (dC, dI) vwCl [(g0, .int), (g1, .int), (g2, .int), (g3, .int), (g4, .int), (g5, .int)] U ∧ va_D (fun _ => True) (wd_1ad5b18c h0 h1 h2 h3 h4 h5 h6 v0 v1 v2 h1 g0 f3 h2 g1 f4 h3 g2 f5 h4 g3 f6 h5 g4 f7 h6 g5 f8))) (va_Qi (fun (r : Int32) (_ : Unit) => 0 ≤ r.toInt ∧ r.toInt ≤ 1) (fun (_ : Unit) (t : State) => ∃ (o_h4 : Nat → Int32) (o_h5 : Nat → Int32) (o_h6 : Nat → Int32), va_P (dC, dI) vwCl (wd_1ad5b18c h0 h1 h2 h3 h4 h5 h6 v0 v1 v2 h1 g0 f3 h2 g1 f4 h3 g2 f5 h4 g3 o_h4 h5 g4 o_h5 h6 g5 o_h6) t.heap ∧ va_K (dC, dI) vwCl [] t ∧ va_D (va_A (wd_1ad5b18c h0 h1 h2 h3 h4 h5 h6 v0 v1 v2 h1 g0 f3 h2 g1 f4 h3 g2 f5 h4 g3 f6 h5 g4 f7 h6 g5 f8) sz) (wd_1ad5b18c h0 h1 h2 h3 h4 h5 h6 v0 v1 v2 h1 g0 f3 h2 g1 f4 h3 g2 f5 h4 g3 o_h4 h5 g4 o_h5 h6 g5 o_h6)) (va_A (wd_1ad5b18c h0 h1 h2 h3 h4 h5 h6 v0 v1 v2 h1 g0 f3 h2 g1 f4 h3 g2 f5 h4 g3 f6 h5 g4 f7 h6 g5 f8) sz)) 0 0 (va_A (wd_1ad5b18c h0 h1 h2 h3 h4 h5 h6 v0 v1 v2 h1 g0 f3 h2 g1 f4 h3 g2 f5 h4 g3 f6 h5 g4 f7 h6 g5 f8) sz) := by
  refine Met.ofW (cc := cX8_place) (maxL := 5) (ret := (some .boolean)) (by decide) rfl ?_
  intro p e s m args below meth c s₁ B hml hv
  obtain ⟨i_v2a, i_v2b⟩ := i_v2
  obtain ⟨rfl, hsz, hP, hK, hD0⟩ := hv
  have hx := B.exec
  have hb := B.bytes
  have hr := B.returns
  have hts := atoms_spec (ws := q_X8_place_7) B.pre
  have hown : s.vm.findClass RX8 = some m.cls := findClass_of_methodNamed B.named
  have hlocks := B.notSynchronized
  subst hsz
  have hD := hD0.self (sz := s.heap.size)
  generalize hAe : va_A (wd_1ad5b18c h0 h1 h2 h3 h4 h5 h6 v0 v1 v2 h1 g0 f3 h2 g1 f4 h3 g2 f5 h4 g3 f6 h5 g4 f7 h6 g5 f8) s.heap.size = A at hD ⊢
  have hA : ∀ q : Nat, s.heap.size ≤ q → A q := fun q h => by rw [← hAe]; exact Or.inr h
  have hS : va_S A s.heap s.heap [] := va_S.rf
  generalize hQ : (MQ below _ _ s 0 0 A) = Q
  have hl := lv_entry ([.ref h0, .int 1, .int v9, .int v10]) (n := 5) (Nat.le_of_ble_eq_true rfl)
  rw [lg_entry_eq]
  generalize (lg_sl ([.ref h0, .int 1, .int v9, .int v10]) ++ List.replicate (5 - (lg_sl ([.ref h0, .int 1, .int v9, .int v10])).length) Slot.unset).toArray = ls at hl ⊢
  have hl : lv_has ls 5 [(0, .ref h0), (1, .int 1), (2, .int v9), (3, .int v10)] := hl
  obtain ⟨H, hH⟩ : ∃ H : Heap, H = s.heap := ⟨_, rfl⟩
  obtain ⟨locs, hlocs⟩ : ∃ y : List Loc, y = [] := ⟨_, rfl⟩
  have hS : va_S A s.heap H locs := by rw [hH, hlocs]; exact va_S.rf
  have hP : va_P (dC, dI) vwCl (wd_1ad5b18c h0 h1 h2 h3 h4 h5 h6 v0 v1 v2 h1 g0 f3 h2 g1 f4 h3 g2 f5 h4 g3 f6 h5 g4 f7 h6 g5 f8) H := by rw [hH]; exact hP
  rw [← hH, ← hlocs]
  refine lv_iload_n hx hb dX8_place_0 rfl (lv_at hl 1 rfl) ?_
  refine lv_if_lt (tgt := 18) hx hb dX8_place_1 (by decide) (fun c => absurd c (by decide)) (fun _ => ?_)
  refine lv_iload_n hx hb dX8_place_4 rfl (lv_at hl 1 rfl) ?_
  refine lv_aload_n hx hb dX8_place_5 rfl (lv_at hl 0 rfl) ?_
  refine va_get (D := (dC, dI)) (ci := 8) (v := .int v0) (C := RX8) (T := TX8) (N := 9) hx hb hts (fun _ h => List.mem_cons_of_mem _ (List.mem_append_right _ h)) hown hK hP 0 rfl rfl 6 (by decide) (hts (.fieldLink RX8 30 "LeftArguments$Rows" "bags" "I") (List.mem_cons_of_mem _ (List.mem_append_left _ (List.mem_of_getElem? (i := 0) rfl)))) (fun _ h9 => h9) rfl dX8_place_6 ?_
  refine lv_icmp_ge (tgt := 18) hx hb dX8_place_9 (by decide) (fun c1 => ?_) (fun c1 => ?_)
  · skip
    have fc1 : v0.toInt ≤ 1 := Int32.le_iff_toInt_le.mp c1
    refine lv_iconst (v := 1) hx hb dX8_place_18 (by decide) ?_
    subst hQ
    have hP9 := hP.sub (ws' := (wd_1ad5b18c h0 h1 h2 h3 h4 h5 h6 v0 v1 v2 h1 g0 f3 h2 g1 f4 h3 g2 f5 h4 g3 f6 h5 g4 f7 h6 g5 f8)) [0, 1, 2, 3, 4, 5, 6] rfl
    have hD9 := hD.sub (ws' := (wd_1ad5b18c h0 h1 h2 h3 h4 h5 h6 v0 v1 v2 h1 g0 f3 h2 g1 f4 h3 g2 f5 h4 g3 f6 h5 g4 f7 h6 g5 f8)) [0, 1, 2, 3, 4, 5, 6] (by decide) rfl
    have hK9 := hK.sub (tys' := []) [] rfl
    exact W.zret (v := 1) hx hb hr rfl (fun t ht hW => ⟨⟨1, (), rfl, ⟨by first | omega | decide, by first | omega | decide⟩, f6, f7, f8, by rw [ht]; exact hP9, va_K.moved hW.alike hK9, hD9⟩, hS.F ht⟩) hS.2.2 dX8_place_19
  · skip
    have fc1 : ¬ (v0.toInt ≤ 1) := fun h9 => c1 (Int32.le_iff_toInt_le.mpr h9)
    refine lv_iload_n hx hb dX8_place_12 rfl (lv_at hl 1 rfl) ?_
    refine lv_bipush (v := 8) hx hb dX8_place_13 (by decide) ?_
    refine lv_icmp_lt (tgt := 20) hx hb dX8_place_15 (by decide) (fun _ => ?_) (fun c => absurd (by decide) c)
    refine lv_iconst (v := 0) hx hb dX8_place_20 (by decide) ?_
    refine lv_istore (lv' := [(4, .int 0), (0, .ref h0), (1, .int 1), (2, .int v9), (3, .int v10)]) hx hb dX8_place_21 hl (by decide) rfl (fun ls hl => ?_)
    have hL22 : ∀ (n9 : Nat), ∀ (x14 : Int32) (fn15 : Nat → Int32) (fn16 : Nat → Int32) (fn17 : Nat → Int32) (H : Heap) (locs : List Loc) (ls : Array Slot), 0 ≤ x14.toInt → x14.toInt ≤ 8 → (8 - x14.toInt).toNat < n9 → va_P (dC, dI) vwCl (wd_1ad5b18c h0 h1 h2 h3 h4 h5 h6 v0 v1 v2 h1 g0 f3 h2 g1 f4 h3 g2 f5 h4 g3 fn15 h5 g4 fn16 h6 g5 fn17) H → va_D A (wd_1ad5b18c h0 h1 h2 h3 h4 h5 h6 v0 v1 v2 h1 g0 f3 h2 g1 f4 h3 g2 f5 h4 g3 fn15 h5 g4 fn16 h6 g5 fn17) → va_S A s.heap H locs → lv_has ls 5 [(4, .int x14), (0, .ref h0), (1, .int 1), (2, .int v9), (3, .int v10)] → W p l e ({ frames := 7, cells := 0, slots := 0, locals := 168 }) s m ([.ref h0, .int 1, .int v9, .int v10] : List Value).toArray below meth c H locs 0 0 Q (F0 m 23 ls []) := by
      intro n9
      induction n9 with
      | zero => intro x14 fn15 fn16 fn17 H locs ls qa_x14 qb_x14 hm9 hP hD hS hl; exact absurd hm9 (Nat.not_lt_zero _)
      | succ n9 ih_hL22 =>
        intro x14 fn15 fn16 fn17 H locs ls qa_x14 qb_x14 hm9 hP hD hS hl
        refine lv_iload hx hb dX8_place_23 (lv_at hl 0 rfl) ?_
        refine lv_iload_n hx hb dX8_place_25 rfl (lv_at hl 3 rfl) ?_
        refine lv_icmp_gt (tgt := 157) hx hb dX8_place_26 (by decide) (fun c23 => ?_) (fun c23 => ?_)
        · skip
          have fc23 : v9.toInt < x14.toInt := Int32.lt_iff_toInt_lt.mp c23
          have r1c23 := Int32.toInt_lt x14
          have r2c23 := Int32.toInt_lt v9
          have r3c23 := Int32.le_toInt x14
          have r4c23 := Int32.le_toInt v9
          refine lv_iconst (v := 0) hx hb dX8_place_157 (by decide) ?_
          subst hQ
          have hP9 := hP.sub (ws' := (wd_1ad5b18c h0 h1 h2 h3 h4 h5 h6 v0 v1 v2 h1 g0 f3 h2 g1 f4 h3 g2 f5 h4 g3 fn15 h5 g4 fn16 h6 g5 fn17)) [0, 1, 2, 3, 4, 5, 6] rfl
          have hD9 := hD.sub (ws' := (wd_1ad5b18c h0 h1 h2 h3 h4 h5 h6 v0 v1 v2 h1 g0 f3 h2 g1 f4 h3 g2 f5 h4 g3 fn15 h5 g4 fn16 h6 g5 fn17)) [0, 1, 2, 3, 4, 5, 6] (by decide) rfl
          have hK9 := hK.sub (tys' := []) [] rfl
          exact W.zret (v := 0) hx hb hr rfl (fun t ht hW => ⟨⟨0, (), rfl, ⟨by first | omega | decide, by first | omega | decide⟩, fn15, fn16, fn17, by rw [ht]; exact hP9, va_K.moved hW.alike hK9, hD9⟩, hS.F ht⟩) hS.2.2 dX8_place_158
        · skip
          have fc23 : ¬ (v9.toInt < x14.toInt) := fun h9 => c23 (Int32.lt_iff_toInt_lt.mpr h9)
          have r1c23 := Int32.toInt_lt x14
          have r2c23 := Int32.toInt_lt v9
          have r3c23 := Int32.le_toInt x14
          have r4c23 := Int32.le_toInt v9
          refine lv_iload hx hb dX8_place_29 (lv_at hl 0 rfl) ?_
          refine lv_iload_n hx hb dX8_place_31 rfl (lv_at hl 4 rfl) ?_
          refine lv_icmp_ge (tgt := 157) hx hb dX8_place_32 (by decide) (fun c24 => ?_) (fun c24 => ?_)
          · skip
            have fc24 : v10.toInt ≤ x14.toInt := Int32.le_iff_toInt_le.mp c24
            have r1c24 := Int32.toInt_lt x14
            have r2c24 := Int32.toInt_lt v10
            have r3c24 := Int32.le_toInt x14
            have r4c24 := Int32.le_toInt v10
            refine lv_iconst (v := 0) hx hb dX8_place_157 (by decide) ?_
            subst hQ
            have hP9 := hP.sub (ws' := (wd_1ad5b18c h0 h1 h2 h3 h4 h5 h6 v0 v1 v2 h1 g0 f3 h2 g1 f4 h3 g2 f5 h4 g3 fn15 h5 g4 fn16 h6 g5 fn17)) [0, 1, 2, 3, 4, 5, 6] rfl
            have hD9 := hD.sub (ws' := (wd_1ad5b18c h0 h1 h2 h3 h4 h5 h6 v0 v1 v2 h1 g0 f3 h2 g1 f4 h3 g2 f5 h4 g3 fn15 h5 g4 fn16 h6 g5 fn17)) [0, 1, 2, 3, 4, 5, 6] (by decide) rfl
            have hK9 := hK.sub (tys' := []) [] rfl
            exact W.zret (v := 0) hx hb hr rfl (fun t ht hW => ⟨⟨0, (), rfl, ⟨by first | omega | decide, by first | omega | decide⟩, fn15, fn16, fn17, by rw [ht]; exact hP9, va_K.moved hW.alike hK9, hD9⟩, hS.F ht⟩) hS.2.2 dX8_place_158
          · skip
            have fc24 : ¬ (v10.toInt ≤ x14.toInt) := fun h9 => c24 (Int32.le_iff_toInt_le.mpr h9)
            have r1c24 := Int32.toInt_lt x14
            have r2c24 := Int32.toInt_lt v10
            have r3c24 := Int32.le_toInt x14
            have r4c24 := Int32.le_toInt v10
            refine lv_iload hx hb dX8_place_35 (lv_at hl 0 rfl) ?_
            refine lv_bipush (v := 8) hx hb dX8_place_37 (by decide) ?_
            refine lv_icmp_ge (tgt := 157) hx hb dX8_place_39 (by decide) (fun c25 => ?_) (fun c25 => ?_)
            · skip
              have fc25 : 8 ≤ x14.toInt := Int32.le_iff_toInt_le.mp c25
              refine lv_iconst (v := 0) hx hb dX8_place_157 (by decide) ?_
              subst hQ
              have hP9 := hP.sub (ws' := (wd_1ad5b18c h0 h1 h2 h3 h4 h5 h6 v0 v1 v2 h1 g0 f3 h2 g1 f4 h3 g2 f5 h4 g3 fn15 h5 g4 fn16 h6 g5 fn17)) [0, 1, 2, 3, 4, 5, 6] rfl
              have hD9 := hD.sub (ws' := (wd_1ad5b18c h0 h1 h2 h3 h4 h5 h6 v0 v1 v2 h1 g0 f3 h2 g1 f4 h3 g2 f5 h4 g3 fn15 h5 g4 fn16 h6 g5 fn17)) [0, 1, 2, 3, 4, 5, 6] (by decide) rfl
              have hK9 := hK.sub (tys' := []) [] rfl
              exact W.zret (v := 0) hx hb hr rfl (fun t ht hW => ⟨⟨0, (), rfl, ⟨by first | omega | decide, by first | omega | decide⟩, fn15, fn16, fn17, by rw [ht]; exact hP9, va_K.moved hW.alike hK9, hD9⟩, hS.F ht⟩) hS.2.2 dX8_place_158
            · skip
              have fc25 : ¬ (8 ≤ x14.toInt) := fun h9 => c25 (Int32.le_iff_toInt_le.mpr h9)
              refine lv_aload_n hx hb dX8_place_42 rfl (lv_at hl 1 rfl) ?_
              refine lv_iload_n hx hb dX8_place_43 rfl (lv_at hl 2 rfl) ?_
              refine lv_iload hx hb dX8_place_44 (lv_at hl 0 rfl) ?_
              have hPc := hP.sub (ws' := (wd_62728821 h0 h1 h2 h3 h4 h5 h6 v0 v1 v2 h1 g0 f3 h2 g1 f4 h5 g4 fn16 h6 g5 fn17)) [0, 1, 2, 5, 6] rfl
              have hDc := hD.sub (ws' := (wd_62728821 h0 h1 h2 h3 h4 h5 h6 v0 v1 v2 h1 g0 f3 h2 g1 f4 h5 g4 fn16 h6 g5 fn17)) [0, 1, 2, 5, 6] (by decide) rfl
              have hKc := hK.sub (tys' := [(g0, .int), (g1, .int), (g4, .int), (g5, .int)]) [0, 1, 4, 5] rfl
              have hFc := va_free (wc := (wd_62728821 h0 h1 h2 h3 h4 h5 h6 v0 v1 v2 h1 g0 f3 h2 g1 f4 h5 g4 fn16 h6 g5 fn17)) hD hS hA [0, 1, 2, 5, 6] rfl
              refine va_calli (va_runV (As := [.int 1, .int x14]) (rest := []) ⟨hx, hb, hml, hown, hts⟩ (k_X8_standsWell l dC dI h0 h1 h2 h5 h6 h3 h4 v0 v1 v2 g0 f3 g1 f4 g4 fn16 g5 fn17 1 x14 ⟨i_v2a, i_v2b⟩ H.size) (cwV 2 hts g_X8_place_7_0 rfl rfl rfl (by decide +kernel) ⟨Nat.le_of_ble_eq_true rfl, Nat.le_of_ble_eq_true rfl⟩) (pv_PV8 hPc hKc hDc (q0 := 0) rfl) rfl rfl hl.1 rfl (lv_room (Nat.le_of_ble_eq_true rfl)) dX8_place_46 ⟨Nat.le_of_ble_eq_true rfl, Nat.le_of_ble_eq_true rfl⟩) hS (fun q _ h => hFc q h) hFc (fun ra26 u t H1 locs ht hvm hwra26 hB hz1 hk1 hS => ?_)
              obtain ⟨hP1, hK1, hD1⟩ := hB
              rw [ht] at hP1
              obtain ⟨hP2, hD2⟩ := va_join (wr := (wd_c3b6304c h3 g2 f5 h4 g3 fn15)) (w1 := (wd_62728821 h0 h1 h2 h3 h4 h5 h6 v0 v1 v2 h1 g0 f3 h2 g1 f4 h5 g4 fn16 h6 g5 fn17)) hP hD [0, 1, 2, 5, 6] [3, 4] rfl rfl (by decide) (by decide) hk1 hFc hP1 hD1
              clear hP hD hPc hDc hKc hFc hP1 hK1 hD1 hk1 hz1
              generalize H1 = H at hP2 hS ⊢
              have hP := hP2.sub (ws' := (wd_1ad5b18c h0 h1 h2 h3 h4 h5 h6 v0 v1 v2 h1 g0 f3 h2 g1 f4 h3 g2 f5 h4 g3 fn15 h5 g4 fn16 h6 g5 fn17)) [2, 3, 4, 0, 1, 5, 6] rfl
              have hD := hD2.sub (ws' := (wd_1ad5b18c h0 h1 h2 h3 h4 h5 h6 v0 v1 v2 h1 g0 f3 h2 g1 f4 h3 g2 f5 h4 g3 fn15 h5 g4 fn16 h6 g5 fn17)) [2, 3, 4, 0, 1, 5, 6] (by decide) rfl
              clear hP2 hD2
              obtain ⟨wa_ra26, wb_ra26⟩ := hwra26
              have wa_ra26 : 0 ≤ ra26.toInt := wa_ra26
              have wb_ra26 : ra26.toInt ≤ 1 := wb_ra26
              refine lv_if_eq (tgt := 151) hx hb dX8_place_49 (by decide) (fun c27 => ?_) (fun c27 => ?_)
              · skip
                have fc27 : ra26.toInt = 0 := congrArg Int32.toInt c27
                obtain ⟨t28, et28⟩ : ∃ y : Int32, y = x14 + 1 := ⟨_, rfl⟩
                have gt28 : t28.toInt = x14.toInt + (1) := pv_add (a := x14.toInt) (b := (1)) et28 rfl (by decide) (by omega) (by omega)
                refine lv_iinc (v := t28) (lv' := [(4, .int t28), (0, .ref h0), (1, .int 1), (2, .int v9), (3, .int v10)]) hx hb dX8_place_151 hl (k := 0) rfl (by rw [et28]; rfl) (by decide) rfl (fun ls hl => ?_)
                refine lv_goto (tgt := 23) hx hb dX8_place_154 (by decide) ?_
                exact ih_hL22 t28 fn15 fn16 fn17 H locs ls (by first | omega | decide) (by first | omega | decide) (by first | omega | (simp only [Int.toNat] at *; omega)) hP hD hS (lv_sub hl [0, 1, 2, 3, 4] rfl)
              · skip
                have fc27 : ¬ (ra26.toInt = 0) := fun h9 => c27 (Int32.toInt_inj.mp h9)
                refine lv_aload_n hx hb dX8_place_52 rfl (lv_at hl 1 rfl) ?_
                refine va_get (D := (dC, dI)) (ci := 8) (v := .ref h4) (C := RX8) (T := TX8) (N := 9) hx hb hts (fun _ h => List.mem_cons_of_mem _ (List.mem_append_right _ h)) hown hK hP 0 rfl rfl 3 (by decide) (hts (.fieldLink RX8 21 "LeftArguments$Rows" "chosen" "[I") (List.mem_cons_of_mem _ (List.mem_append_left _ (List.mem_of_getElem? (i := 12) rfl)))) (fun _ h9 => h9) rfl dX8_place_53 ?_
                refine lv_iload_n hx hb dX8_place_56 rfl (lv_at hl 2 rfl) ?_
                refine lv_iload hx hb dX8_place_57 (lv_at hl 0 rfl) ?_
                refine va_iast hx hb hK hP hD hS 4 3 rfl rfl (pv_c (x := 1) (n := 8) (by decide)) dX8_place_59 (fun H locs hP hD hS => ?_)
                obtain ⟨fn29, efn29⟩ : ∃ g : Nat → Int32, g = upd fn15 (Int32.toNatClampNeg 1) x14 := ⟨_, rfl⟩
                rw [← efn29] at hP hD
                have hP : va_P (dC, dI) vwCl (wd_1ad5b18c h0 h1 h2 h3 h4 h5 h6 v0 v1 v2 h1 g0 f3 h2 g1 f4 h3 g2 f5 h4 g3 fn29 h5 g4 fn16 h6 g5 fn17) H := hP
                have hD : va_D A (wd_1ad5b18c h0 h1 h2 h3 h4 h5 h6 v0 v1 v2 h1 g0 f3 h2 g1 f4 h3 g2 f5 h4 g3 fn29 h5 g4 fn16 h6 g5 fn17) := hD
                refine lv_aload_n hx hb dX8_place_60 rfl (lv_at hl 1 rfl) ?_
                refine va_get (D := (dC, dI)) (ci := 8) (v := .ref h5) (C := RX8) (T := TX8) (N := 9) hx hb hts (fun _ h => List.mem_cons_of_mem _ (List.mem_append_right _ h)) hown hK hP 0 rfl rfl 4 (by decide) (hts (.fieldLink RX8 24 "LeftArguments$Rows" "loads" "[I") (List.mem_cons_of_mem _ (List.mem_append_left _ (List.mem_of_getElem? (i := 5) rfl)))) (fun _ h9 => h9) rfl dX8_place_61 ?_
                refine lv_iload hx hb dX8_place_64 (lv_at hl 0 rfl) ?_
                refine lv_dup2_11 hx hb dX8_place_66 rfl rfl ?_
                refine va_iald hx hb hK hP 5 4 rfl rfl (vp_in_iff.mpr ⟨by omega, by omega⟩) dX8_place_67 ?_
                refine lv_topi (fun t30 et30 => ?_)
                refine lv_aload_n hx hb dX8_place_68 rfl (lv_at hl 1 rfl) ?_
                refine va_get (D := (dC, dI)) (ci := 8) (v := .ref h1) (C := RX8) (T := TX8) (N := 9) hx hb hts (fun _ h => List.mem_cons_of_mem _ (List.mem_append_right _ h)) hown hK hP 0 rfl rfl 0 (by decide) (hts (.fieldLink RX8 9 "LeftArguments$Rows" "sizes" "[I") (List.mem_cons_of_mem _ (List.mem_append_left _ (List.mem_of_getElem? (i := 6) rfl)))) (fun _ h9 => h9) rfl dX8_place_69 ?_
                refine lv_iload_n hx hb dX8_place_72 rfl (lv_at hl 2 rfl) ?_
                refine va_iald hx hb hK hP 1 0 rfl rfl (pv_c (x := 1) (n := 8) (by decide)) dX8_place_73 ?_
                refine lv_topi (fun t31 et31 => ?_)
                refine lv_iadd hx hb dX8_place_74 ?_
                refine lv_topi (fun t32 et32 => ?_)
                refine va_iast hx hb hK hP hD hS 5 4 rfl rfl (vp_in_iff.mpr ⟨by omega, by omega⟩) dX8_place_75 (fun H locs hP hD hS => ?_)
                obtain ⟨fn33, efn33⟩ : ∃ g : Nat → Int32, g = upd fn16 (Int32.toNatClampNeg x14) t32 := ⟨_, rfl⟩
                rw [← efn33] at hP hD
                have hP : va_P (dC, dI) vwCl (wd_1ad5b18c h0 h1 h2 h3 h4 h5 h6 v0 v1 v2 h1 g0 f3 h2 g1 f4 h3 g2 f5 h4 g3 fn29 h5 g4 fn33 h6 g5 fn17) H := hP
                have hD : va_D A (wd_1ad5b18c h0 h1 h2 h3 h4 h5 h6 v0 v1 v2 h1 g0 f3 h2 g1 f4 h3 g2 f5 h4 g3 fn29 h5 g4 fn33 h6 g5 fn17) := hD
                refine lv_aload_n hx hb dX8_place_76 rfl (lv_at hl 1 rfl) ?_
                refine va_get (D := (dC, dI)) (ci := 8) (v := .ref h6) (C := RX8) (T := TX8) (N := 9) hx hb hts (fun _ h => List.mem_cons_of_mem _ (List.mem_append_right _ h)) hown hK hP 0 rfl rfl 5 (by decide) (hts (.fieldLink RX8 27 "LeftArguments$Rows" "standing" "[I") (List.mem_cons_of_mem _ (List.mem_append_left _ (List.mem_of_getElem? (i := 3) rfl)))) (fun _ h9 => h9) rfl dX8_place_77 ?_
                refine lv_iload hx hb dX8_place_80 (lv_at hl 0 rfl) ?_
                refine lv_dup2_11 hx hb dX8_place_82 rfl rfl ?_
                refine va_iald hx hb hK hP 6 5 rfl rfl (vp_in_iff.mpr ⟨by omega, by omega⟩) dX8_place_83 ?_
                refine lv_topi (fun t34 et34 => ?_)
                refine lv_iconst (v := 1) hx hb dX8_place_84 (by decide) ?_
                refine lv_aload_n hx hb dX8_place_85 rfl (lv_at hl 1 rfl) ?_
                refine va_get (D := (dC, dI)) (ci := 8) (v := .ref h3) (C := RX8) (T := TX8) (N := 9) hx hb hts (fun _ h => List.mem_cons_of_mem _ (List.mem_append_right _ h)) hown hK hP 0 rfl rfl 2 (by decide) (hts (.fieldLink RX8 18 "LeftArguments$Rows" "places" "[I") (List.mem_cons_of_mem _ (List.mem_append_left _ (List.mem_of_getElem? (i := 13) rfl)))) (fun _ h9 => h9) rfl dX8_place_86 ?_
                refine lv_iload_n hx hb dX8_place_89 rfl (lv_at hl 2 rfl) ?_
                refine va_iald hx hb hK hP 3 2 rfl rfl (pv_c (x := 1) (n := 8) (by decide)) dX8_place_90 ?_
                refine lv_topi (fun t35 et35 => ?_)
                refine lv_ishl hx hb dX8_place_91 ?_
                refine lv_topi (fun t36 et36 => ?_)
                refine lv_ior hx hb dX8_place_92 ?_
                refine lv_topi (fun t37 et37 => ?_)
                refine va_iast hx hb hK hP hD hS 6 5 rfl rfl (vp_in_iff.mpr ⟨by omega, by omega⟩) dX8_place_93 (fun H locs hP hD hS => ?_)
                obtain ⟨fn38, efn38⟩ : ∃ g : Nat → Int32, g = upd fn17 (Int32.toNatClampNeg x14) t37 := ⟨_, rfl⟩
                rw [← efn38] at hP hD
                have hP : va_P (dC, dI) vwCl (wd_1ad5b18c h0 h1 h2 h3 h4 h5 h6 v0 v1 v2 h1 g0 f3 h2 g1 f4 h3 g2 f5 h4 g3 fn29 h5 g4 fn33 h6 g5 fn38) H := hP
                have hD : va_D A (wd_1ad5b18c h0 h1 h2 h3 h4 h5 h6 v0 v1 v2 h1 g0 f3 h2 g1 f4 h3 g2 f5 h4 g3 fn29 h5 g4 fn33 h6 g5 fn38) := hD
                refine lv_aload_n hx hb dX8_place_94 rfl (lv_at hl 1 rfl) ?_
                refine lv_iload_n hx hb dX8_place_95 rfl (lv_at hl 2 rfl) ?_
                refine lv_iconst (v := 1) hx hb dX8_place_96 (by decide) ?_
                refine lv_iadd hx hb dX8_place_97 ?_
                refine lv_topi (fun tv39 etv39 => ?_)
                obtain rfl : tv39 = (2 : Int32) := etv39.trans (by first | rfl | decide)
                refine lv_iload_n hx hb dX8_place_98 rfl (lv_at hl 3 rfl) ?_
                refine lv_iload hx hb dX8_place_99 (lv_at hl 0 rfl) ?_
                refine lv_iconst (v := 1) hx hb dX8_place_101 (by decide) ?_
                refine lv_iadd hx hb dX8_place_102 ?_
                refine lv_topi (fun t40 et40 => ?_)
                have gt40 : t40.toInt = x14.toInt + 1 := pv_add (a := x14.toInt) (b := 1) et40 rfl (by decide) (by omega) (by omega)
                refine va_mmax hx hb (by rw [hml]; exact hl.1.symm) hown (hts (.methodLink RX8 72 Lib.Math.max.name) (List.mem_cons_of_mem _ (List.mem_append_left _ (List.mem_of_getElem? (i := 14) rfl)))) (hts (.static Lib.Math.max.name) (List.mem_cons_of_mem _ (List.mem_append_left _ (List.mem_of_getElem? (i := 15) rfl)))) (hts (.initialized "java/lang/Math") (List.mem_cons_of_mem _ (List.mem_append_left _ (List.mem_of_getElem? (i := 16) rfl)))) (hts (.code Lib.Math.max.name Lib.Math.max.code 2 (some .int)) (List.mem_cons_of_mem _ (List.mem_append_left _ (List.mem_of_getElem? (i := 17) rfl)))) (Nat.le_of_ble_eq_true rfl) (Nat.le_of_ble_eq_true rfl) (Nat.le_of_ble_eq_true rfl) (Nat.le_of_ble_eq_true rfl) dX8_place_103 ?_
                refine lv_topi (fun t41 et41 => ?_)
                obtain ⟨gat41, gbt41, gct41⟩ := pv_max (a := v9.toInt) (b := t40.toInt) et41 rfl rfl
                refine lv_iload_n hx hb dX8_place_106 rfl (lv_at hl 4 rfl) ?_
                have hPc := hP.sub (ws' := (wd_1ad5b18c h0 h1 h2 h3 h4 h5 h6 v0 v1 v2 h1 g0 f3 h2 g1 f4 h3 g2 f5 h4 g3 fn29 h5 g4 fn33 h6 g5 fn38)) [0, 1, 2, 3, 4, 5, 6] rfl
                have hDc := hD.sub (ws' := (wd_1ad5b18c h0 h1 h2 h3 h4 h5 h6 v0 v1 v2 h1 g0 f3 h2 g1 f4 h3 g2 f5 h4 g3 fn29 h5 g4 fn33 h6 g5 fn38)) [0, 1, 2, 3, 4, 5, 6] (by decide) rfl
                have hKc := hK.sub (tys' := [(g0, .int), (g1, .int), (g2, .int), (g3, .int), (g4, .int), (g5, .int)]) [0, 1, 2, 3, 4, 5] rfl
                have hFc := va_free (wc := (wd_1ad5b18c h0 h1 h2 h3 h4 h5 h6 v0 v1 v2 h1 g0 f3 h2 g1 f4 h3 g2 f5 h4 g3 fn29 h5 g4 fn33 h6 g5 fn38)) hD hS hA [0, 1, 2, 3, 4, 5, 6] rfl
                refine va_calli (va_runV (As := [.int 2, .int t41, .int v10]) (rest := []) ⟨hx, hb, hml, hown, hts⟩ (k_X8_place_6 l dC dI h0 h1 h2 h3 h4 h5 h6 v0 v1 v2 g0 f3 g1 f4 g2 f5 g3 fn29 g4 fn33 g5 fn38 t41 v10 ⟨i_v2a, i_v2b⟩ H.size) (cwV 3 hts g_X8_place_7_1 rfl rfl rfl (by decide +kernel) ⟨Nat.le_of_ble_eq_true rfl, Nat.le_of_ble_eq_true rfl⟩) (pv_PV8 hPc hKc hDc (q0 := 0) rfl) rfl rfl hl.1 rfl (lv_room (Nat.le_of_ble_eq_true rfl)) dX8_place_107 ⟨Nat.le_of_ble_eq_true rfl, Nat.le_of_ble_eq_true rfl⟩) hS (fun q _ h => hFc q h) hFc (fun ra42 u t H1 locs ht hvm hwra42 hB hz1 hk1 hS => ?_)
                obtain ⟨fn43, fn44, fn45, hP1, hK1, hD1⟩ := hB
                rw [ht] at hP1
                obtain ⟨hP2, hD2⟩ := va_join (wr := []) (w1 := (wd_1ad5b18c h0 h1 h2 h3 h4 h5 h6 v0 v1 v2 h1 g0 f3 h2 g1 f4 h3 g2 f5 h4 g3 fn43 h5 g4 fn44 h6 g5 fn45)) hP hD [0, 1, 2, 3, 4, 5, 6] [] rfl rfl (by decide) (by decide) hk1 hFc hP1 hD1
                clear hP hD hPc hDc hKc hFc hP1 hK1 hD1 hk1 hz1
                generalize H1 = H at hP2 hS ⊢
                have hP : va_P (dC, dI) vwCl (wd_1ad5b18c h0 h1 h2 h3 h4 h5 h6 v0 v1 v2 h1 g0 f3 h2 g1 f4 h3 g2 f5 h4 g3 fn43 h5 g4 fn44 h6 g5 fn45) H := hP2
                have hD : va_D A (wd_1ad5b18c h0 h1 h2 h3 h4 h5 h6 v0 v1 v2 h1 g0 f3 h2 g1 f4 h3 g2 f5 h4 g3 fn43 h5 g4 fn44 h6 g5 fn45) := hD2
                clear hP2 hD2
                obtain ⟨wa_ra42, wb_ra42⟩ := hwra42
                have wa_ra42 : 0 ≤ ra42.toInt := wa_ra42
                have wb_ra42 : ra42.toInt ≤ 1 := wb_ra42
                refine lv_if_eq (tgt := 115) hx hb dX8_place_110 (by decide) (fun c46 => ?_) (fun c46 => ?_)
                · skip
                  have fc46 : ra42.toInt = 0 := congrArg Int32.toInt c46
                  refine lv_aload_n hx hb dX8_place_115 rfl (lv_at hl 1 rfl) ?_
                  refine va_get (D := (dC, dI)) (ci := 8) (v := .ref h5) (C := RX8) (T := TX8) (N := 9) hx hb hts (fun _ h => List.mem_cons_of_mem _ (List.mem_append_right _ h)) hown hK hP 0 rfl rfl 4 (by decide) (hts (.fieldLink RX8 24 "LeftArguments$Rows" "loads" "[I") (List.mem_cons_of_mem _ (List.mem_append_left _ (List.mem_of_getElem? (i := 5) rfl)))) (fun _ h9 => h9) rfl dX8_place_116 ?_
                  refine lv_iload hx hb dX8_place_119 (lv_at hl 0 rfl) ?_
                  refine lv_dup2_11 hx hb dX8_place_121 rfl rfl ?_
                  refine va_iald hx hb hK hP 5 4 rfl rfl (vp_in_iff.mpr ⟨by omega, by omega⟩) dX8_place_122 ?_
                  refine lv_topi (fun t47 et47 => ?_)
                  refine lv_aload_n hx hb dX8_place_123 rfl (lv_at hl 1 rfl) ?_
                  refine va_get (D := (dC, dI)) (ci := 8) (v := .ref h1) (C := RX8) (T := TX8) (N := 9) hx hb hts (fun _ h => List.mem_cons_of_mem _ (List.mem_append_right _ h)) hown hK hP 0 rfl rfl 0 (by decide) (hts (.fieldLink RX8 9 "LeftArguments$Rows" "sizes" "[I") (List.mem_cons_of_mem _ (List.mem_append_left _ (List.mem_of_getElem? (i := 6) rfl)))) (fun _ h9 => h9) rfl dX8_place_124 ?_
                  refine lv_iload_n hx hb dX8_place_127 rfl (lv_at hl 2 rfl) ?_
                  refine va_iald hx hb hK hP 1 0 rfl rfl (pv_c (x := 1) (n := 8) (by decide)) dX8_place_128 ?_
                  refine lv_topi (fun t48 et48 => ?_)
                  refine lv_isub hx hb dX8_place_129 ?_
                  refine lv_topi (fun t49 et49 => ?_)
                  refine va_iast hx hb hK hP hD hS 5 4 rfl rfl (vp_in_iff.mpr ⟨by omega, by omega⟩) dX8_place_130 (fun H locs hP hD hS => ?_)
                  obtain ⟨fn50, efn50⟩ : ∃ g : Nat → Int32, g = upd fn44 (Int32.toNatClampNeg x14) t49 := ⟨_, rfl⟩
                  rw [← efn50] at hP hD
                  have hP : va_P (dC, dI) vwCl (wd_1ad5b18c h0 h1 h2 h3 h4 h5 h6 v0 v1 v2 h1 g0 f3 h2 g1 f4 h3 g2 f5 h4 g3 fn43 h5 g4 fn50 h6 g5 fn45) H := hP
                  have hD : va_D A (wd_1ad5b18c h0 h1 h2 h3 h4 h5 h6 v0 v1 v2 h1 g0 f3 h2 g1 f4 h3 g2 f5 h4 g3 fn43 h5 g4 fn50 h6 g5 fn45) := hD
                  refine lv_aload_n hx hb dX8_place_131 rfl (lv_at hl 1 rfl) ?_
                  refine va_get (D := (dC, dI)) (ci := 8) (v := .ref h6) (C := RX8) (T := TX8) (N := 9) hx hb hts (fun _ h => List.mem_cons_of_mem _ (List.mem_append_right _ h)) hown hK hP 0 rfl rfl 5 (by decide) (hts (.fieldLink RX8 27 "LeftArguments$Rows" "standing" "[I") (List.mem_cons_of_mem _ (List.mem_append_left _ (List.mem_of_getElem? (i := 3) rfl)))) (fun _ h9 => h9) rfl dX8_place_132 ?_
                  refine lv_iload hx hb dX8_place_135 (lv_at hl 0 rfl) ?_
                  refine lv_dup2_11 hx hb dX8_place_137 rfl rfl ?_
                  refine va_iald hx hb hK hP 6 5 rfl rfl (vp_in_iff.mpr ⟨by omega, by omega⟩) dX8_place_138 ?_
                  refine lv_topi (fun t51 et51 => ?_)
                  refine lv_iconst (v := 1) hx hb dX8_place_139 (by decide) ?_
                  refine lv_aload_n hx hb dX8_place_140 rfl (lv_at hl 1 rfl) ?_
                  refine va_get (D := (dC, dI)) (ci := 8) (v := .ref h3) (C := RX8) (T := TX8) (N := 9) hx hb hts (fun _ h => List.mem_cons_of_mem _ (List.mem_append_right _ h)) hown hK hP 0 rfl rfl 2 (by decide) (hts (.fieldLink RX8 18 "LeftArguments$Rows" "places" "[I") (List.mem_cons_of_mem _ (List.mem_append_left _ (List.mem_of_getElem? (i := 13) rfl)))) (fun _ h9 => h9) rfl dX8_place_141 ?_
                  refine lv_iload_n hx hb dX8_place_144 rfl (lv_at hl 2 rfl) ?_
                  refine va_iald hx hb hK hP 3 2 rfl rfl (pv_c (x := 1) (n := 8) (by decide)) dX8_place_145 ?_
                  refine lv_topi (fun t52 et52 => ?_)
                  refine lv_ishl hx hb dX8_place_146 ?_
                  refine lv_topi (fun t53 et53 => ?_)
                  refine lv_iconst (v := (-1)) hx hb dX8_place_147 (by decide) ?_
                  refine lv_ixor hx hb dX8_place_148 ?_
                  refine lv_topi (fun t54 et54 => ?_)
                  refine lv_iand hx hb dX8_place_149 ?_
                  refine lv_topi (fun t55 et55 => ?_)
                  refine va_iast hx hb hK hP hD hS 6 5 rfl rfl (vp_in_iff.mpr ⟨by omega, by omega⟩) dX8_place_150 (fun H locs hP hD hS => ?_)
                  obtain ⟨fn56, efn56⟩ : ∃ g : Nat → Int32, g = upd fn45 (Int32.toNatClampNeg x14) t55 := ⟨_, rfl⟩
                  rw [← efn56] at hP hD
                  have hP : va_P (dC, dI) vwCl (wd_1ad5b18c h0 h1 h2 h3 h4 h5 h6 v0 v1 v2 h1 g0 f3 h2 g1 f4 h3 g2 f5 h4 g3 fn43 h5 g4 fn50 h6 g5 fn56) H := hP
                  have hD : va_D A (wd_1ad5b18c h0 h1 h2 h3 h4 h5 h6 v0 v1 v2 h1 g0 f3 h2 g1 f4 h3 g2 f5 h4 g3 fn43 h5 g4 fn50 h6 g5 fn56) := hD
                  obtain ⟨t57, et57⟩ : ∃ y : Int32, y = x14 + 1 := ⟨_, rfl⟩
                  have gt57 : t57.toInt = x14.toInt + (1) := pv_add (a := x14.toInt) (b := (1)) et57 rfl (by decide) (by omega) (by omega)
                  refine lv_iinc (v := t57) (lv' := [(4, .int t57), (0, .ref h0), (1, .int 1), (2, .int v9), (3, .int v10)]) hx hb dX8_place_151 hl (k := 0) rfl (by rw [et57]; rfl) (by decide) rfl (fun ls hl => ?_)
                  refine lv_goto (tgt := 23) hx hb dX8_place_154 (by decide) ?_
                  exact ih_hL22 t57 fn43 fn50 fn56 H locs ls (by first | omega | decide) (by first | omega | decide) (by first | omega | (simp only [Int.toNat] at *; omega)) hP hD hS (lv_sub hl [0, 1, 2, 3, 4] rfl)
                · skip
                  have fc46 : ¬ (ra42.toInt = 0) := fun h9 => c46 (Int32.toInt_inj.mp h9)
                  refine lv_iconst (v := 1) hx hb dX8_place_113 (by decide) ?_
                  subst hQ
                  have hP9 := hP.sub (ws' := (wd_1ad5b18c h0 h1 h2 h3 h4 h5 h6 v0 v1 v2 h1 g0 f3 h2 g1 f4 h3 g2 f5 h4 g3 fn43 h5 g4 fn44 h6 g5 fn45)) [0, 1, 2, 3, 4, 5, 6] rfl
                  have hD9 := hD.sub (ws' := (wd_1ad5b18c h0 h1 h2 h3 h4 h5 h6 v0 v1 v2 h1 g0 f3 h2 g1 f4 h3 g2 f5 h4 g3 fn43 h5 g4 fn44 h6 g5 fn45)) [0, 1, 2, 3, 4, 5, 6] (by decide) rfl
                  have hK9 := hK.sub (tys' := []) [] rfl
                  exact W.zret (v := 1) hx hb hr rfl (fun t ht hW => ⟨⟨1, (), rfl, ⟨by first | omega | decide, by first | omega | decide⟩, fn43, fn44, fn45, by rw [ht]; exact hP9, va_K.moved hW.alike hK9, hD9⟩, hS.F ht⟩) hS.2.2 dX8_place_114
    exact hL22 _ 0 f6 f7 f8 H locs ls (by decide) (by decide) (Nat.lt_succ_self _) hP hD hS (lv_sub hl [0, 1, 2, 3, 4] rfl)
def q_X8_place_8 : List Cond := .code yX8_place cX8_place 5 (some .boolean) :: (([.fieldLink RX8 30 "LeftArguments$Rows" "bags" "I", .code yX8_standsWell cX8_standsWell 3 (some .boolean), .fieldLink RX8 37 "LeftArguments$Rows" "byRoom" "Z", .fieldLink RX8 27 "LeftArguments$Rows" "standing" "[I", .fieldLink RX8 15 "LeftArguments$Rows" "circles" "[I", .fieldLink RX8 24 "LeftArguments$Rows" "loads" "[I", .fieldLink RX8 9 "LeftArguments$Rows" "sizes" "[I", .fieldLink RX8 34 "LeftArguments$Rows" "wide" "I", .initialized RX8, .instanceMethod yX8_standsWell, .selects RX8 yX8_standsWell yX8_standsWell, .methodLink RX8 68 yX8_standsWell, .fieldLink RX8 21 "LeftArguments$Rows" "chosen" "[I", .fieldLink RX8 18 "LeftArguments$Rows" "places" "[I", .methodLink RX8 72 Lib.Math.max.name, .static Lib.Math.max.name, .initialized "java/lang/Math", .code Lib.Math.max.name Lib.Math.max.code 2 (some .int), .code yX8_place cX8_place 5 (some .boolean), .instanceMethod yX8_place, .selects RX8 yX8_place yX8_place, .methodLink RX8 64 yX8_place] : List Cond) ++ wsX80)
set_option maxRecDepth 20000 in
theorem g_X8_place_8_0 : GoodIn q_X8_place_8 (wsV RX8 68 RX8 yX8_standsWell q_X8_standsWell) := goodIn_app (goodIn_r _ [12, 10, 11, 9] rfl (by decide +kernel)) (goodIn_ca (goodIn_r (.code yX8_standsWell cX8_standsWell 3 (some .boolean) :: [.fieldLink RX8 37 "LeftArguments$Rows" "byRoom" "Z", .fieldLink RX8 27 "LeftArguments$Rows" "standing" "[I", .fieldLink RX8 15 "LeftArguments$Rows" "circles" "[I", .fieldLink RX8 24 "LeftArguments$Rows" "loads" "[I", .fieldLink RX8 9 "LeftArguments$Rows" "sizes" "[I", .fieldLink RX8 34 "LeftArguments$Rows" "wide" "I"]) [2, 3, 4, 5, 6, 7, 8] rfl (by decide +kernel)) (goodIn_sub (fun _ h => List.mem_cons_of_mem _ (List.mem_append_right _ h)) gwX8))
set_option maxRecDepth 20000 in
theorem g_X8_place_8_1 : GoodIn q_X8_place_8 (wsV RX8 64 RX8 yX8_place q_X8_place_7) := goodIn_app (goodIn_r _ [22, 20, 21, 9] rfl (by decide +kernel)) (goodIn_ca (goodIn_r (.code yX8_place cX8_place 5 (some .boolean) :: [.fieldLink RX8 30 "LeftArguments$Rows" "bags" "I", .code yX8_standsWell cX8_standsWell 3 (some .boolean), .fieldLink RX8 37 "LeftArguments$Rows" "byRoom" "Z", .fieldLink RX8 27 "LeftArguments$Rows" "standing" "[I", .fieldLink RX8 15 "LeftArguments$Rows" "circles" "[I", .fieldLink RX8 24 "LeftArguments$Rows" "loads" "[I", .fieldLink RX8 9 "LeftArguments$Rows" "sizes" "[I", .fieldLink RX8 34 "LeftArguments$Rows" "wide" "I", .initialized RX8, .instanceMethod yX8_standsWell, .selects RX8 yX8_standsWell yX8_standsWell, .methodLink RX8 68 yX8_standsWell, .fieldLink RX8 21 "LeftArguments$Rows" "chosen" "[I", .fieldLink RX8 18 "LeftArguments$Rows" "places" "[I", .methodLink RX8 72 Lib.Math.max.name, .static Lib.Math.max.name, .initialized "java/lang/Math", .code Lib.Math.max.name Lib.Math.max.code 2 (some .int), .code yX8_place cX8_place 5 (some .boolean), .instanceMethod yX8_place, .selects RX8 yX8_place yX8_place, .methodLink RX8 64 yX8_place]) [19, 1, 2, 3, 4, 5, 6, 7, 8, 9, 10, 11, 12, 13, 14, 15, 16, 17, 18, 19, 20, 21, 22] rfl (by decide +kernel)) (goodIn_sub (fun _ h => List.mem_cons_of_mem _ (List.mem_append_right _ h)) gwX8))
set_option maxHeartbeats 4000000 in
set_option maxRecDepth 100000 in
theorem k_X8_place_8 (l : Launch) (dC : Nat → ClassId) (dI : Nat → Nat → Nat) (h0 : Nat) (h1 : Nat) (h2 : Nat) (h3 : Nat) (h4 : Nat) (h5 : Nat) (h6 : Nat) (v0 : Int32) (v1 : Int32) (v2 : Int32) (g0 : ClassId) (f3 : Nat → Int32) (g1 : ClassId) (f4 : Nat → Int32) (g2 : ClassId) (f5 : Nat → Int32) (g3 : ClassId) (f6 : Nat → Int32) (g4 : ClassId) (f7 : Nat → Int32) (g5 : ClassId) (f8 : Nat → Int32) (v9 : Int32) (v10 : Int32) (i_v2 : 0 ≤ v2.toInt ∧ v2.toInt ≤ 1) (sz : Nat) : Met l yX8_place q_X8_place_8 ({ frames := 8, cells := 0, slots := 0, locals := 192 }) (va_Pc [.ref h0, .int 0, .int v9, .int v10] (fun U => U.heap.size = sz ∧ va_P (dC, dI) vwCl (wd_1ad5b18c h0 h1 h2 h3 h4 h5 h6 v0 v1 v2 h1 g0 f3 h2 g1 f4 h3 g2 f5 h4 g3 f6 h5 g4 f7 h6 g5 f8) U.heap ∧ va_K (dC, dI) vwCl [(g0, .int), (g1, .int), (g2, .int), (g3, .int), (g4, .int), (g5, .int)] U ∧ va_D (fun _ => True) (wd_1ad5b18c h0 h1 h2 h3 h4 h5 h6 v0 v1 v2 h1 g0 f3 h2 g1 f4 h3 g2 f5 h4 g3 f6 h5 g4 f7 h6 g5 f8))) (va_Qi (fun (r : Int32) (_ : Unit) => 0 ≤ r.toInt ∧ r.toInt ≤ 1) (fun (_ : Unit) (t : State) => ∃ (o_h4 : Nat → Int32) (o_h5 : Nat → Int32) (o_h6 : Nat → Int32), va_P (dC, dI) vwCl (wd_1ad5b18c h0 h1 h2 h3 h4 h5 h6 v0 v1 v2 h1 g0 f3 h2 g1 f4 h3 g2 f5 h4 g3 o_h4 h5 g4 o_h5 h6 g5 o_h6) t.heap ∧ va_K (dC, dI) vwCl [] t ∧ va_D (va_A (wd_1ad5b18c h0 h1 h2 h3 h4 h5 h6 v0 v1 v2 h1 g0 f3 h2 g1 f4 h3 g2 f5 h4 g3 f6 h5 g4 f7 h6 g5 f8) sz) (wd_1ad5b18c h0 h1 h2 h3 h4 h5 h6 v0 v1 v2 h1 g0 f3 h2 g1 f4 h3 g2 f5 h4 g3 o_h4 h5 g4 o_h5 h6 g5 o_h6)) (va_A (wd_1ad5b18c h0 h1 h2 h3 h4 h5 h6 v0 v1 v2 h1 g0 f3 h2 g1 f4 h3 g2 f5 h4 g3 f6 h5 g4 f7 h6 g5 f8) sz)) 0 0 (va_A (wd_1ad5b18c h0 h1 h2 h3 h4 h5 h6 v0 v1 v2 h1 g0 f3 h2 g1 f4 h3 g2 f5 h4 g3 f6 h5 g4 f7 h6 g5 f8) sz) := by
  refine Met.ofW (cc := cX8_place) (maxL := 5) (ret := (some .boolean)) (by decide) rfl ?_
  intro p e s m args below meth c s₁ B hml hv
  obtain ⟨i_v2a, i_v2b⟩ := i_v2
  obtain ⟨rfl, hsz, hP, hK, hD0⟩ := hv
  have hx := B.exec
  have hb := B.bytes
  have hr := B.returns
  have hts := atoms_spec (ws := q_X8_place_8) B.pre
  have hown : s.vm.findClass RX8 = some m.cls := findClass_of_methodNamed B.named
  have hlocks := B.notSynchronized
  subst hsz
  have hD := hD0.self (sz := s.heap.size)
  generalize hAe : va_A (wd_1ad5b18c h0 h1 h2 h3 h4 h5 h6 v0 v1 v2 h1 g0 f3 h2 g1 f4 h3 g2 f5 h4 g3 f6 h5 g4 f7 h6 g5 f8) s.heap.size = A at hD ⊢
  have hA : ∀ q : Nat, s.heap.size ≤ q → A q := fun q h => by rw [← hAe]; exact Or.inr h
  have hS : va_S A s.heap s.heap [] := va_S.rf
  generalize hQ : (MQ below _ _ s 0 0 A) = Q
  have hl := lv_entry ([.ref h0, .int 0, .int v9, .int v10]) (n := 5) (Nat.le_of_ble_eq_true rfl)
  rw [lg_entry_eq]
  generalize (lg_sl ([.ref h0, .int 0, .int v9, .int v10]) ++ List.replicate (5 - (lg_sl ([.ref h0, .int 0, .int v9, .int v10])).length) Slot.unset).toArray = ls at hl ⊢
  have hl : lv_has ls 5 [(0, .ref h0), (1, .int 0), (2, .int v9), (3, .int v10)] := hl
  obtain ⟨H, hH⟩ : ∃ H : Heap, H = s.heap := ⟨_, rfl⟩
  obtain ⟨locs, hlocs⟩ : ∃ y : List Loc, y = [] := ⟨_, rfl⟩
  have hS : va_S A s.heap H locs := by rw [hH, hlocs]; exact va_S.rf
  have hP : va_P (dC, dI) vwCl (wd_1ad5b18c h0 h1 h2 h3 h4 h5 h6 v0 v1 v2 h1 g0 f3 h2 g1 f4 h3 g2 f5 h4 g3 f6 h5 g4 f7 h6 g5 f8) H := by rw [hH]; exact hP
  rw [← hH, ← hlocs]
  refine lv_iload_n hx hb dX8_place_0 rfl (lv_at hl 1 rfl) ?_
  refine lv_if_lt (tgt := 18) hx hb dX8_place_1 (by decide) (fun c => absurd c (by decide)) (fun _ => ?_)
  refine lv_iload_n hx hb dX8_place_4 rfl (lv_at hl 1 rfl) ?_
  refine lv_aload_n hx hb dX8_place_5 rfl (lv_at hl 0 rfl) ?_
  refine va_get (D := (dC, dI)) (ci := 8) (v := .int v0) (C := RX8) (T := TX8) (N := 9) hx hb hts (fun _ h => List.mem_cons_of_mem _ (List.mem_append_right _ h)) hown hK hP 0 rfl rfl 6 (by decide) (hts (.fieldLink RX8 30 "LeftArguments$Rows" "bags" "I") (List.mem_cons_of_mem _ (List.mem_append_left _ (List.mem_of_getElem? (i := 0) rfl)))) (fun _ h9 => h9) rfl dX8_place_6 ?_
  refine lv_icmp_ge (tgt := 18) hx hb dX8_place_9 (by decide) (fun c1 => ?_) (fun c1 => ?_)
  · skip
    have fc1 : v0.toInt ≤ 0 := Int32.le_iff_toInt_le.mp c1
    refine lv_iconst (v := 1) hx hb dX8_place_18 (by decide) ?_
    subst hQ
    have hP9 := hP.sub (ws' := (wd_1ad5b18c h0 h1 h2 h3 h4 h5 h6 v0 v1 v2 h1 g0 f3 h2 g1 f4 h3 g2 f5 h4 g3 f6 h5 g4 f7 h6 g5 f8)) [0, 1, 2, 3, 4, 5, 6] rfl
    have hD9 := hD.sub (ws' := (wd_1ad5b18c h0 h1 h2 h3 h4 h5 h6 v0 v1 v2 h1 g0 f3 h2 g1 f4 h3 g2 f5 h4 g3 f6 h5 g4 f7 h6 g5 f8)) [0, 1, 2, 3, 4, 5, 6] (by decide) rfl
    have hK9 := hK.sub (tys' := []) [] rfl
    exact W.zret (v := 1) hx hb hr rfl (fun t ht hW => ⟨⟨1, (), rfl, ⟨by first | omega | decide, by first | omega | decide⟩, f6, f7, f8, by rw [ht]; exact hP9, va_K.moved hW.alike hK9, hD9⟩, hS.F ht⟩) hS.2.2 dX8_place_19
  · skip
    have fc1 : ¬ (v0.toInt ≤ 0) := fun h9 => c1 (Int32.le_iff_toInt_le.mpr h9)
    refine lv_iload_n hx hb dX8_place_12 rfl (lv_at hl 1 rfl) ?_
    refine lv_bipush (v := 8) hx hb dX8_place_13 (by decide) ?_
    refine lv_icmp_lt (tgt := 20) hx hb dX8_place_15 (by decide) (fun _ => ?_) (fun c => absurd (by decide) c)
    refine lv_iconst (v := 0) hx hb dX8_place_20 (by decide) ?_
    refine lv_istore (lv' := [(4, .int 0), (0, .ref h0), (1, .int 0), (2, .int v9), (3, .int v10)]) hx hb dX8_place_21 hl (by decide) rfl (fun ls hl => ?_)
    have hL22 : ∀ (n9 : Nat), ∀ (x14 : Int32) (fn15 : Nat → Int32) (fn16 : Nat → Int32) (fn17 : Nat → Int32) (H : Heap) (locs : List Loc) (ls : Array Slot), 0 ≤ x14.toInt → x14.toInt ≤ 8 → (8 - x14.toInt).toNat < n9 → va_P (dC, dI) vwCl (wd_1ad5b18c h0 h1 h2 h3 h4 h5 h6 v0 v1 v2 h1 g0 f3 h2 g1 f4 h3 g2 f5 h4 g3 fn15 h5 g4 fn16 h6 g5 fn17) H → va_D A (wd_1ad5b18c h0 h1 h2 h3 h4 h5 h6 v0 v1 v2 h1 g0 f3 h2 g1 f4 h3 g2 f5 h4 g3 fn15 h5 g4 fn16 h6 g5 fn17) → va_S A s.heap H locs → lv_has ls 5 [(4, .int x14), (0, .ref h0), (1, .int 0), (2, .int v9), (3, .int v10)] → W p l e ({ frames := 8, cells := 0, slots := 0, locals := 192 }) s m ([.ref h0, .int 0, .int v9, .int v10] : List Value).toArray below meth c H locs 0 0 Q (F0 m 23 ls []) := by
      intro n9
      induction n9 with
      | zero => intro x14 fn15 fn16 fn17 H locs ls qa_x14 qb_x14 hm9 hP hD hS hl; exact absurd hm9 (Nat.not_lt_zero _)
      | succ n9 ih_hL22 =>
        intro x14 fn15 fn16 fn17 H locs ls qa_x14 qb_x14 hm9 hP hD hS hl
        refine lv_iload hx hb dX8_place_23 (lv_at hl 0 rfl) ?_
        refine lv_iload_n hx hb dX8_place_25 rfl (lv_at hl 3 rfl) ?_
        refine lv_icmp_gt (tgt := 157) hx hb dX8_place_26 (by decide) (fun c23 => ?_) (fun c23 => ?_)
        · skip
          have fc23 : v9.toInt < x14.toInt := Int32.lt_iff_toInt_lt.mp c23
          have r1c23 := Int32.toInt_lt x14
          have r2c23 := Int32.toInt_lt v9
          have r3c23 := Int32.le_toInt x14
          have r4c23 := Int32.le_toInt v9
          refine lv_iconst (v := 0) hx hb dX8_place_157 (by decide) ?_
          subst hQ
          have hP9 := hP.sub (ws' := (wd_1ad5b18c h0 h1 h2 h3 h4 h5 h6 v0 v1 v2 h1 g0 f3 h2 g1 f4 h3 g2 f5 h4 g3 fn15 h5 g4 fn16 h6 g5 fn17)) [0, 1, 2, 3, 4, 5, 6] rfl
          have hD9 := hD.sub (ws' := (wd_1ad5b18c h0 h1 h2 h3 h4 h5 h6 v0 v1 v2 h1 g0 f3 h2 g1 f4 h3 g2 f5 h4 g3 fn15 h5 g4 fn16 h6 g5 fn17)) [0, 1, 2, 3, 4, 5, 6] (by decide) rfl
          have hK9 := hK.sub (tys' := []) [] rfl
          exact W.zret (v := 0) hx hb hr rfl (fun t ht hW => ⟨⟨0, (), rfl, ⟨by first | omega | decide, by first | omega | decide⟩, fn15, fn16, fn17, by rw [ht]; exact hP9, va_K.moved hW.alike hK9, hD9⟩, hS.F ht⟩) hS.2.2 dX8_place_158
        · skip
          have fc23 : ¬ (v9.toInt < x14.toInt) := fun h9 => c23 (Int32.lt_iff_toInt_lt.mpr h9)
          have r1c23 := Int32.toInt_lt x14
          have r2c23 := Int32.toInt_lt v9
          have r3c23 := Int32.le_toInt x14
          have r4c23 := Int32.le_toInt v9
          refine lv_iload hx hb dX8_place_29 (lv_at hl 0 rfl) ?_
          refine lv_iload_n hx hb dX8_place_31 rfl (lv_at hl 4 rfl) ?_
          refine lv_icmp_ge (tgt := 157) hx hb dX8_place_32 (by decide) (fun c24 => ?_) (fun c24 => ?_)
          · skip
            have fc24 : v10.toInt ≤ x14.toInt := Int32.le_iff_toInt_le.mp c24
            have r1c24 := Int32.toInt_lt x14
            have r2c24 := Int32.toInt_lt v10
            have r3c24 := Int32.le_toInt x14
            have r4c24 := Int32.le_toInt v10
            refine lv_iconst (v := 0) hx hb dX8_place_157 (by decide) ?_
            subst hQ
            have hP9 := hP.sub (ws' := (wd_1ad5b18c h0 h1 h2 h3 h4 h5 h6 v0 v1 v2 h1 g0 f3 h2 g1 f4 h3 g2 f5 h4 g3 fn15 h5 g4 fn16 h6 g5 fn17)) [0, 1, 2, 3, 4, 5, 6] rfl
            have hD9 := hD.sub (ws' := (wd_1ad5b18c h0 h1 h2 h3 h4 h5 h6 v0 v1 v2 h1 g0 f3 h2 g1 f4 h3 g2 f5 h4 g3 fn15 h5 g4 fn16 h6 g5 fn17)) [0, 1, 2, 3, 4, 5, 6] (by decide) rfl
            have hK9 := hK.sub (tys' := []) [] rfl
            exact W.zret (v := 0) hx hb hr rfl (fun t ht hW => ⟨⟨0, (), rfl, ⟨by first | omega | decide, by first | omega | decide⟩, fn15, fn16, fn17, by rw [ht]; exact hP9, va_K.moved hW.alike hK9, hD9⟩, hS.F ht⟩) hS.2.2 dX8_place_158
          · skip
            have fc24 : ¬ (v10.toInt ≤ x14.toInt) := fun h9 => c24 (Int32.le_iff_toInt_le.mpr h9)
            have r1c24 := Int32.toInt_lt x14
            have r2c24 := Int32.toInt_lt v10
            have r3c24 := Int32.le_toInt x14
            have r4c24 := Int32.le_toInt v10
            refine lv_iload hx hb dX8_place_35 (lv_at hl 0 rfl) ?_
            refine lv_bipush (v := 8) hx hb dX8_place_37 (by decide) ?_
            refine lv_icmp_ge (tgt := 157) hx hb dX8_place_39 (by decide) (fun c25 => ?_) (fun c25 => ?_)
            · skip
              have fc25 : 8 ≤ x14.toInt := Int32.le_iff_toInt_le.mp c25
              refine lv_iconst (v := 0) hx hb dX8_place_157 (by decide) ?_
              subst hQ
              have hP9 := hP.sub (ws' := (wd_1ad5b18c h0 h1 h2 h3 h4 h5 h6 v0 v1 v2 h1 g0 f3 h2 g1 f4 h3 g2 f5 h4 g3 fn15 h5 g4 fn16 h6 g5 fn17)) [0, 1, 2, 3, 4, 5, 6] rfl
              have hD9 := hD.sub (ws' := (wd_1ad5b18c h0 h1 h2 h3 h4 h5 h6 v0 v1 v2 h1 g0 f3 h2 g1 f4 h3 g2 f5 h4 g3 fn15 h5 g4 fn16 h6 g5 fn17)) [0, 1, 2, 3, 4, 5, 6] (by decide) rfl
              have hK9 := hK.sub (tys' := []) [] rfl
              exact W.zret (v := 0) hx hb hr rfl (fun t ht hW => ⟨⟨0, (), rfl, ⟨by first | omega | decide, by first | omega | decide⟩, fn15, fn16, fn17, by rw [ht]; exact hP9, va_K.moved hW.alike hK9, hD9⟩, hS.F ht⟩) hS.2.2 dX8_place_158
            · skip
              have fc25 : ¬ (8 ≤ x14.toInt) := fun h9 => c25 (Int32.le_iff_toInt_le.mpr h9)
              refine lv_aload_n hx hb dX8_place_42 rfl (lv_at hl 1 rfl) ?_
              refine lv_iload_n hx hb dX8_place_43 rfl (lv_at hl 2 rfl) ?_
              refine lv_iload hx hb dX8_place_44 (lv_at hl 0 rfl) ?_
              have hPc := hP.sub (ws' := (wd_62728821 h0 h1 h2 h3 h4 h5 h6 v0 v1 v2 h1 g0 f3 h2 g1 f4 h5 g4 fn16 h6 g5 fn17)) [0, 1, 2, 5, 6] rfl
              have hDc := hD.sub (ws' := (wd_62728821 h0 h1 h2 h3 h4 h5 h6 v0 v1 v2 h1 g0 f3 h2 g1 f4 h5 g4 fn16 h6 g5 fn17)) [0, 1, 2, 5, 6] (by decide) rfl
              have hKc := hK.sub (tys' := [(g0, .int), (g1, .int), (g4, .int), (g5, .int)]) [0, 1, 4, 5] rfl
              have hFc := va_free (wc := (wd_62728821 h0 h1 h2 h3 h4 h5 h6 v0 v1 v2 h1 g0 f3 h2 g1 f4 h5 g4 fn16 h6 g5 fn17)) hD hS hA [0, 1, 2, 5, 6] rfl
              refine va_calli (va_runV (As := [.int 0, .int x14]) (rest := []) ⟨hx, hb, hml, hown, hts⟩ (k_X8_standsWell l dC dI h0 h1 h2 h5 h6 h3 h4 v0 v1 v2 g0 f3 g1 f4 g4 fn16 g5 fn17 0 x14 ⟨i_v2a, i_v2b⟩ H.size) (cwV 2 hts g_X8_place_8_0 rfl rfl rfl (by decide +kernel) ⟨Nat.le_of_ble_eq_true rfl, Nat.le_of_ble_eq_true rfl⟩) (pv_PV8 hPc hKc hDc (q0 := 0) rfl) rfl rfl hl.1 rfl (lv_room (Nat.le_of_ble_eq_true rfl)) dX8_place_46 ⟨Nat.le_of_ble_eq_true rfl, Nat.le_of_ble_eq_true rfl⟩) hS (fun q _ h => hFc q h) hFc (fun ra26 u t H1 locs ht hvm hwra26 hB hz1 hk1 hS => ?_)
              obtain ⟨hP1, hK1, hD1⟩ := hB
              rw [ht] at hP1
              obtain ⟨hP2, hD2⟩ := va_join (wr := (wd_c3b6304c h3 g2 f5 h4 g3 fn15)) (w1 := (wd_62728821 h0 h1 h2 h3 h4 h5 h6 v0 v1 v2 h1 g0 f3 h2 g1 f4 h5 g4 fn16 h6 g5 fn17)) hP hD [0, 1, 2, 5, 6] [3, 4] rfl rfl (by decide) (by decide) hk1 hFc hP1 hD1
              clear hP hD hPc hDc hKc hFc hP1 hK1 hD1 hk1 hz1
              generalize H1 = H at hP2 hS ⊢
              have hP := hP2.sub (ws' := (wd_1ad5b18c h0 h1 h2 h3 h4 h5 h6 v0 v1 v2 h1 g0 f3 h2 g1 f4 h3 g2 f5 h4 g3 fn15 h5 g4 fn16 h6 g5 fn17)) [2, 3, 4, 0, 1, 5, 6] rfl
              have hD := hD2.sub (ws' := (wd_1ad5b18c h0 h1 h2 h3 h4 h5 h6 v0 v1 v2 h1 g0 f3 h2 g1 f4 h3 g2 f5 h4 g3 fn15 h5 g4 fn16 h6 g5 fn17)) [2, 3, 4, 0, 1, 5, 6] (by decide) rfl
              clear hP2 hD2
              obtain ⟨wa_ra26, wb_ra26⟩ := hwra26
              have wa_ra26 : 0 ≤ ra26.toInt := wa_ra26
              have wb_ra26 : ra26.toInt ≤ 1 := wb_ra26
              refine lv_if_eq (tgt := 151) hx hb dX8_place_49 (by decide) (fun c27 => ?_) (fun c27 => ?_)
              · skip
                have fc27 : ra26.toInt = 0 := congrArg Int32.toInt c27
                obtain ⟨t28, et28⟩ : ∃ y : Int32, y = x14 + 1 := ⟨_, rfl⟩
                have gt28 : t28.toInt = x14.toInt + (1) := pv_add (a := x14.toInt) (b := (1)) et28 rfl (by decide) (by omega) (by omega)
                refine lv_iinc (v := t28) (lv' := [(4, .int t28), (0, .ref h0), (1, .int 0), (2, .int v9), (3, .int v10)]) hx hb dX8_place_151 hl (k := 0) rfl (by rw [et28]; rfl) (by decide) rfl (fun ls hl => ?_)
                refine lv_goto (tgt := 23) hx hb dX8_place_154 (by decide) ?_
                exact ih_hL22 t28 fn15 fn16 fn17 H locs ls (by first | omega | decide) (by first | omega | decide) (by first | omega | (simp only [Int.toNat] at *; omega)) hP hD hS (lv_sub hl [0, 1, 2, 3, 4] rfl)
              · skip
                have fc27 : ¬ (ra26.toInt = 0) := fun h9 => c27 (Int32.toInt_inj.mp h9)
                refine lv_aload_n hx hb dX8_place_52 rfl (lv_at hl 1 rfl) ?_
                refine va_get (D := (dC, dI)) (ci := 8) (v := .ref h4) (C := RX8) (T := TX8) (N := 9) hx hb hts (fun _ h => List.mem_cons_of_mem _ (List.mem_append_right _ h)) hown hK hP 0 rfl rfl 3 (by decide) (hts (.fieldLink RX8 21 "LeftArguments$Rows" "chosen" "[I") (List.mem_cons_of_mem _ (List.mem_append_left _ (List.mem_of_getElem? (i := 12) rfl)))) (fun _ h9 => h9) rfl dX8_place_53 ?_
                refine lv_iload_n hx hb dX8_place_56 rfl (lv_at hl 2 rfl) ?_
                refine lv_iload hx hb dX8_place_57 (lv_at hl 0 rfl) ?_
                refine va_iast hx hb hK hP hD hS 4 3 rfl rfl (pv_c (x := 0) (n := 8) (by decide)) dX8_place_59 (fun H locs hP hD hS => ?_)
                obtain ⟨fn29, efn29⟩ : ∃ g : Nat → Int32, g = upd fn15 (Int32.toNatClampNeg 0) x14 := ⟨_, rfl⟩
                rw [← efn29] at hP hD
                have hP : va_P (dC, dI) vwCl (wd_1ad5b18c h0 h1 h2 h3 h4 h5 h6 v0 v1 v2 h1 g0 f3 h2 g1 f4 h3 g2 f5 h4 g3 fn29 h5 g4 fn16 h6 g5 fn17) H := hP
                have hD : va_D A (wd_1ad5b18c h0 h1 h2 h3 h4 h5 h6 v0 v1 v2 h1 g0 f3 h2 g1 f4 h3 g2 f5 h4 g3 fn29 h5 g4 fn16 h6 g5 fn17) := hD
                refine lv_aload_n hx hb dX8_place_60 rfl (lv_at hl 1 rfl) ?_
                refine va_get (D := (dC, dI)) (ci := 8) (v := .ref h5) (C := RX8) (T := TX8) (N := 9) hx hb hts (fun _ h => List.mem_cons_of_mem _ (List.mem_append_right _ h)) hown hK hP 0 rfl rfl 4 (by decide) (hts (.fieldLink RX8 24 "LeftArguments$Rows" "loads" "[I") (List.mem_cons_of_mem _ (List.mem_append_left _ (List.mem_of_getElem? (i := 5) rfl)))) (fun _ h9 => h9) rfl dX8_place_61 ?_
                refine lv_iload hx hb dX8_place_64 (lv_at hl 0 rfl) ?_
                refine lv_dup2_11 hx hb dX8_place_66 rfl rfl ?_
                refine va_iald hx hb hK hP 5 4 rfl rfl (vp_in_iff.mpr ⟨by omega, by omega⟩) dX8_place_67 ?_
                refine lv_topi (fun t30 et30 => ?_)
                refine lv_aload_n hx hb dX8_place_68 rfl (lv_at hl 1 rfl) ?_
                refine va_get (D := (dC, dI)) (ci := 8) (v := .ref h1) (C := RX8) (T := TX8) (N := 9) hx hb hts (fun _ h => List.mem_cons_of_mem _ (List.mem_append_right _ h)) hown hK hP 0 rfl rfl 0 (by decide) (hts (.fieldLink RX8 9 "LeftArguments$Rows" "sizes" "[I") (List.mem_cons_of_mem _ (List.mem_append_left _ (List.mem_of_getElem? (i := 6) rfl)))) (fun _ h9 => h9) rfl dX8_place_69 ?_
                refine lv_iload_n hx hb dX8_place_72 rfl (lv_at hl 2 rfl) ?_
                refine va_iald hx hb hK hP 1 0 rfl rfl (pv_c (x := 0) (n := 8) (by decide)) dX8_place_73 ?_
                refine lv_topi (fun t31 et31 => ?_)
                refine lv_iadd hx hb dX8_place_74 ?_
                refine lv_topi (fun t32 et32 => ?_)
                refine va_iast hx hb hK hP hD hS 5 4 rfl rfl (vp_in_iff.mpr ⟨by omega, by omega⟩) dX8_place_75 (fun H locs hP hD hS => ?_)
                obtain ⟨fn33, efn33⟩ : ∃ g : Nat → Int32, g = upd fn16 (Int32.toNatClampNeg x14) t32 := ⟨_, rfl⟩
                rw [← efn33] at hP hD
                have hP : va_P (dC, dI) vwCl (wd_1ad5b18c h0 h1 h2 h3 h4 h5 h6 v0 v1 v2 h1 g0 f3 h2 g1 f4 h3 g2 f5 h4 g3 fn29 h5 g4 fn33 h6 g5 fn17) H := hP
                have hD : va_D A (wd_1ad5b18c h0 h1 h2 h3 h4 h5 h6 v0 v1 v2 h1 g0 f3 h2 g1 f4 h3 g2 f5 h4 g3 fn29 h5 g4 fn33 h6 g5 fn17) := hD
                refine lv_aload_n hx hb dX8_place_76 rfl (lv_at hl 1 rfl) ?_
                refine va_get (D := (dC, dI)) (ci := 8) (v := .ref h6) (C := RX8) (T := TX8) (N := 9) hx hb hts (fun _ h => List.mem_cons_of_mem _ (List.mem_append_right _ h)) hown hK hP 0 rfl rfl 5 (by decide) (hts (.fieldLink RX8 27 "LeftArguments$Rows" "standing" "[I") (List.mem_cons_of_mem _ (List.mem_append_left _ (List.mem_of_getElem? (i := 3) rfl)))) (fun _ h9 => h9) rfl dX8_place_77 ?_
                refine lv_iload hx hb dX8_place_80 (lv_at hl 0 rfl) ?_
                refine lv_dup2_11 hx hb dX8_place_82 rfl rfl ?_
                refine va_iald hx hb hK hP 6 5 rfl rfl (vp_in_iff.mpr ⟨by omega, by omega⟩) dX8_place_83 ?_
                refine lv_topi (fun t34 et34 => ?_)
                refine lv_iconst (v := 1) hx hb dX8_place_84 (by decide) ?_
                refine lv_aload_n hx hb dX8_place_85 rfl (lv_at hl 1 rfl) ?_
                refine va_get (D := (dC, dI)) (ci := 8) (v := .ref h3) (C := RX8) (T := TX8) (N := 9) hx hb hts (fun _ h => List.mem_cons_of_mem _ (List.mem_append_right _ h)) hown hK hP 0 rfl rfl 2 (by decide) (hts (.fieldLink RX8 18 "LeftArguments$Rows" "places" "[I") (List.mem_cons_of_mem _ (List.mem_append_left _ (List.mem_of_getElem? (i := 13) rfl)))) (fun _ h9 => h9) rfl dX8_place_86 ?_
                refine lv_iload_n hx hb dX8_place_89 rfl (lv_at hl 2 rfl) ?_
                refine va_iald hx hb hK hP 3 2 rfl rfl (pv_c (x := 0) (n := 8) (by decide)) dX8_place_90 ?_
                refine lv_topi (fun t35 et35 => ?_)
                refine lv_ishl hx hb dX8_place_91 ?_
                refine lv_topi (fun t36 et36 => ?_)
                refine lv_ior hx hb dX8_place_92 ?_
                refine lv_topi (fun t37 et37 => ?_)
                refine va_iast hx hb hK hP hD hS 6 5 rfl rfl (vp_in_iff.mpr ⟨by omega, by omega⟩) dX8_place_93 (fun H locs hP hD hS => ?_)
                obtain ⟨fn38, efn38⟩ : ∃ g : Nat → Int32, g = upd fn17 (Int32.toNatClampNeg x14) t37 := ⟨_, rfl⟩
                rw [← efn38] at hP hD
                have hP : va_P (dC, dI) vwCl (wd_1ad5b18c h0 h1 h2 h3 h4 h5 h6 v0 v1 v2 h1 g0 f3 h2 g1 f4 h3 g2 f5 h4 g3 fn29 h5 g4 fn33 h6 g5 fn38) H := hP
                have hD : va_D A (wd_1ad5b18c h0 h1 h2 h3 h4 h5 h6 v0 v1 v2 h1 g0 f3 h2 g1 f4 h3 g2 f5 h4 g3 fn29 h5 g4 fn33 h6 g5 fn38) := hD
                refine lv_aload_n hx hb dX8_place_94 rfl (lv_at hl 1 rfl) ?_
                refine lv_iload_n hx hb dX8_place_95 rfl (lv_at hl 2 rfl) ?_
                refine lv_iconst (v := 1) hx hb dX8_place_96 (by decide) ?_
                refine lv_iadd hx hb dX8_place_97 ?_
                refine lv_topi (fun tv39 etv39 => ?_)
                obtain rfl : tv39 = (1 : Int32) := etv39.trans (by first | rfl | decide)
                refine lv_iload_n hx hb dX8_place_98 rfl (lv_at hl 3 rfl) ?_
                refine lv_iload hx hb dX8_place_99 (lv_at hl 0 rfl) ?_
                refine lv_iconst (v := 1) hx hb dX8_place_101 (by decide) ?_
                refine lv_iadd hx hb dX8_place_102 ?_
                refine lv_topi (fun t40 et40 => ?_)
                have gt40 : t40.toInt = x14.toInt + 1 := pv_add (a := x14.toInt) (b := 1) et40 rfl (by decide) (by omega) (by omega)
                refine va_mmax hx hb (by rw [hml]; exact hl.1.symm) hown (hts (.methodLink RX8 72 Lib.Math.max.name) (List.mem_cons_of_mem _ (List.mem_append_left _ (List.mem_of_getElem? (i := 14) rfl)))) (hts (.static Lib.Math.max.name) (List.mem_cons_of_mem _ (List.mem_append_left _ (List.mem_of_getElem? (i := 15) rfl)))) (hts (.initialized "java/lang/Math") (List.mem_cons_of_mem _ (List.mem_append_left _ (List.mem_of_getElem? (i := 16) rfl)))) (hts (.code Lib.Math.max.name Lib.Math.max.code 2 (some .int)) (List.mem_cons_of_mem _ (List.mem_append_left _ (List.mem_of_getElem? (i := 17) rfl)))) (Nat.le_of_ble_eq_true rfl) (Nat.le_of_ble_eq_true rfl) (Nat.le_of_ble_eq_true rfl) (Nat.le_of_ble_eq_true rfl) dX8_place_103 ?_
                refine lv_topi (fun t41 et41 => ?_)
                obtain ⟨gat41, gbt41, gct41⟩ := pv_max (a := v9.toInt) (b := t40.toInt) et41 rfl rfl
                refine lv_iload_n hx hb dX8_place_106 rfl (lv_at hl 4 rfl) ?_
                have hPc := hP.sub (ws' := (wd_1ad5b18c h0 h1 h2 h3 h4 h5 h6 v0 v1 v2 h1 g0 f3 h2 g1 f4 h3 g2 f5 h4 g3 fn29 h5 g4 fn33 h6 g5 fn38)) [0, 1, 2, 3, 4, 5, 6] rfl
                have hDc := hD.sub (ws' := (wd_1ad5b18c h0 h1 h2 h3 h4 h5 h6 v0 v1 v2 h1 g0 f3 h2 g1 f4 h3 g2 f5 h4 g3 fn29 h5 g4 fn33 h6 g5 fn38)) [0, 1, 2, 3, 4, 5, 6] (by decide) rfl
                have hKc := hK.sub (tys' := [(g0, .int), (g1, .int), (g2, .int), (g3, .int), (g4, .int), (g5, .int)]) [0, 1, 2, 3, 4, 5] rfl
                have hFc := va_free (wc := (wd_1ad5b18c h0 h1 h2 h3 h4 h5 h6 v0 v1 v2 h1 g0 f3 h2 g1 f4 h3 g2 f5 h4 g3 fn29 h5 g4 fn33 h6 g5 fn38)) hD hS hA [0, 1, 2, 3, 4, 5, 6] rfl
                refine va_calli (va_runV (As := [.int 1, .int t41, .int v10]) (rest := []) ⟨hx, hb, hml, hown, hts⟩ (k_X8_place_7 l dC dI h0 h1 h2 h3 h4 h5 h6 v0 v1 v2 g0 f3 g1 f4 g2 f5 g3 fn29 g4 fn33 g5 fn38 t41 v10 ⟨i_v2a, i_v2b⟩ H.size) (cwV 3 hts g_X8_place_8_1 rfl rfl rfl (by decide +kernel) ⟨Nat.le_of_ble_eq_true rfl, Nat.le_of_ble_eq_true rfl⟩) (pv_PV8 hPc hKc hDc (q0 := 0) rfl) rfl rfl hl.1 rfl (lv_room (Nat.le_of_ble_eq_true rfl)) dX8_place_107 ⟨Nat.le_of_ble_eq_true rfl, Nat.le_of_ble_eq_true rfl⟩) hS (fun q _ h => hFc q h) hFc (fun ra42 u t H1 locs ht hvm hwra42 hB hz1 hk1 hS => ?_)
                obtain ⟨fn43, fn44, fn45, hP1, hK1, hD1⟩ := hB
                rw [ht] at hP1
                obtain ⟨hP2, hD2⟩ := va_join (wr := []) (w1 := (wd_1ad5b18c h0 h1 h2 h3 h4 h5 h6 v0 v1 v2 h1 g0 f3 h2 g1 f4 h3 g2 f5 h4 g3 fn43 h5 g4 fn44 h6 g5 fn45)) hP hD [0, 1, 2, 3, 4, 5, 6] [] rfl rfl (by decide) (by decide) hk1 hFc hP1 hD1
                clear hP hD hPc hDc hKc hFc hP1 hK1 hD1 hk1 hz1
                generalize H1 = H at hP2 hS ⊢
                have hP : va_P (dC, dI) vwCl (wd_1ad5b18c h0 h1 h2 h3 h4 h5 h6 v0 v1 v2 h1 g0 f3 h2 g1 f4 h3 g2 f5 h4 g3 fn43 h5 g4 fn44 h6 g5 fn45) H := hP2
                have hD : va_D A (wd_1ad5b18c h0 h1 h2 h3 h4 h5 h6 v0 v1 v2 h1 g0 f3 h2 g1 f4 h3 g2 f5 h4 g3 fn43 h5 g4 fn44 h6 g5 fn45) := hD2
                clear hP2 hD2
                obtain ⟨wa_ra42, wb_ra42⟩ := hwra42
                have wa_ra42 : 0 ≤ ra42.toInt := wa_ra42
                have wb_ra42 : ra42.toInt ≤ 1 := wb_ra42
                refine lv_if_eq (tgt := 115) hx hb dX8_place_110 (by decide) (fun c46 => ?_) (fun c46 => ?_)
                · skip
                  have fc46 : ra42.toInt = 0 := congrArg Int32.toInt c46
                  refine lv_aload_n hx hb dX8_place_115 rfl (lv_at hl 1 rfl) ?_
                  refine va_get (D := (dC, dI)) (ci := 8) (v := .ref h5) (C := RX8) (T := TX8) (N := 9) hx hb hts (fun _ h => List.mem_cons_of_mem _ (List.mem_append_right _ h)) hown hK hP 0 rfl rfl 4 (by decide) (hts (.fieldLink RX8 24 "LeftArguments$Rows" "loads" "[I") (List.mem_cons_of_mem _ (List.mem_append_left _ (List.mem_of_getElem? (i := 5) rfl)))) (fun _ h9 => h9) rfl dX8_place_116 ?_
                  refine lv_iload hx hb dX8_place_119 (lv_at hl 0 rfl) ?_
                  refine lv_dup2_11 hx hb dX8_place_121 rfl rfl ?_
                  refine va_iald hx hb hK hP 5 4 rfl rfl (vp_in_iff.mpr ⟨by omega, by omega⟩) dX8_place_122 ?_
                  refine lv_topi (fun t47 et47 => ?_)
                  refine lv_aload_n hx hb dX8_place_123 rfl (lv_at hl 1 rfl) ?_
                  refine va_get (D := (dC, dI)) (ci := 8) (v := .ref h1) (C := RX8) (T := TX8) (N := 9) hx hb hts (fun _ h => List.mem_cons_of_mem _ (List.mem_append_right _ h)) hown hK hP 0 rfl rfl 0 (by decide) (hts (.fieldLink RX8 9 "LeftArguments$Rows" "sizes" "[I") (List.mem_cons_of_mem _ (List.mem_append_left _ (List.mem_of_getElem? (i := 6) rfl)))) (fun _ h9 => h9) rfl dX8_place_124 ?_
                  refine lv_iload_n hx hb dX8_place_127 rfl (lv_at hl 2 rfl) ?_
                  refine va_iald hx hb hK hP 1 0 rfl rfl (pv_c (x := 0) (n := 8) (by decide)) dX8_place_128 ?_
                  refine lv_topi (fun t48 et48 => ?_)
                  refine lv_isub hx hb dX8_place_129 ?_
                  refine lv_topi (fun t49 et49 => ?_)
                  refine va_iast hx hb hK hP hD hS 5 4 rfl rfl (vp_in_iff.mpr ⟨by omega, by omega⟩) dX8_place_130 (fun H locs hP hD hS => ?_)
                  obtain ⟨fn50, efn50⟩ : ∃ g : Nat → Int32, g = upd fn44 (Int32.toNatClampNeg x14) t49 := ⟨_, rfl⟩
                  rw [← efn50] at hP hD
                  have hP : va_P (dC, dI) vwCl (wd_1ad5b18c h0 h1 h2 h3 h4 h5 h6 v0 v1 v2 h1 g0 f3 h2 g1 f4 h3 g2 f5 h4 g3 fn43 h5 g4 fn50 h6 g5 fn45) H := hP
                  have hD : va_D A (wd_1ad5b18c h0 h1 h2 h3 h4 h5 h6 v0 v1 v2 h1 g0 f3 h2 g1 f4 h3 g2 f5 h4 g3 fn43 h5 g4 fn50 h6 g5 fn45) := hD
                  refine lv_aload_n hx hb dX8_place_131 rfl (lv_at hl 1 rfl) ?_
                  refine va_get (D := (dC, dI)) (ci := 8) (v := .ref h6) (C := RX8) (T := TX8) (N := 9) hx hb hts (fun _ h => List.mem_cons_of_mem _ (List.mem_append_right _ h)) hown hK hP 0 rfl rfl 5 (by decide) (hts (.fieldLink RX8 27 "LeftArguments$Rows" "standing" "[I") (List.mem_cons_of_mem _ (List.mem_append_left _ (List.mem_of_getElem? (i := 3) rfl)))) (fun _ h9 => h9) rfl dX8_place_132 ?_
                  refine lv_iload hx hb dX8_place_135 (lv_at hl 0 rfl) ?_
                  refine lv_dup2_11 hx hb dX8_place_137 rfl rfl ?_
                  refine va_iald hx hb hK hP 6 5 rfl rfl (vp_in_iff.mpr ⟨by omega, by omega⟩) dX8_place_138 ?_
                  refine lv_topi (fun t51 et51 => ?_)
                  refine lv_iconst (v := 1) hx hb dX8_place_139 (by decide) ?_
                  refine lv_aload_n hx hb dX8_place_140 rfl (lv_at hl 1 rfl) ?_
                  refine va_get (D := (dC, dI)) (ci := 8) (v := .ref h3) (C := RX8) (T := TX8) (N := 9) hx hb hts (fun _ h => List.mem_cons_of_mem _ (List.mem_append_right _ h)) hown hK hP 0 rfl rfl 2 (by decide) (hts (.fieldLink RX8 18 "LeftArguments$Rows" "places" "[I") (List.mem_cons_of_mem _ (List.mem_append_left _ (List.mem_of_getElem? (i := 13) rfl)))) (fun _ h9 => h9) rfl dX8_place_141 ?_
                  refine lv_iload_n hx hb dX8_place_144 rfl (lv_at hl 2 rfl) ?_
                  refine va_iald hx hb hK hP 3 2 rfl rfl (pv_c (x := 0) (n := 8) (by decide)) dX8_place_145 ?_
                  refine lv_topi (fun t52 et52 => ?_)
                  refine lv_ishl hx hb dX8_place_146 ?_
                  refine lv_topi (fun t53 et53 => ?_)
                  refine lv_iconst (v := (-1)) hx hb dX8_place_147 (by decide) ?_
                  refine lv_ixor hx hb dX8_place_148 ?_
                  refine lv_topi (fun t54 et54 => ?_)
                  refine lv_iand hx hb dX8_place_149 ?_
                  refine lv_topi (fun t55 et55 => ?_)
                  refine va_iast hx hb hK hP hD hS 6 5 rfl rfl (vp_in_iff.mpr ⟨by omega, by omega⟩) dX8_place_150 (fun H locs hP hD hS => ?_)
                  obtain ⟨fn56, efn56⟩ : ∃ g : Nat → Int32, g = upd fn45 (Int32.toNatClampNeg x14) t55 := ⟨_, rfl⟩
                  rw [← efn56] at hP hD
                  have hP : va_P (dC, dI) vwCl (wd_1ad5b18c h0 h1 h2 h3 h4 h5 h6 v0 v1 v2 h1 g0 f3 h2 g1 f4 h3 g2 f5 h4 g3 fn43 h5 g4 fn50 h6 g5 fn56) H := hP
                  have hD : va_D A (wd_1ad5b18c h0 h1 h2 h3 h4 h5 h6 v0 v1 v2 h1 g0 f3 h2 g1 f4 h3 g2 f5 h4 g3 fn43 h5 g4 fn50 h6 g5 fn56) := hD
                  obtain ⟨t57, et57⟩ : ∃ y : Int32, y = x14 + 1 := ⟨_, rfl⟩
                  have gt57 : t57.toInt = x14.toInt + (1) := pv_add (a := x14.toInt) (b := (1)) et57 rfl (by decide) (by omega) (by omega)
                  refine lv_iinc (v := t57) (lv' := [(4, .int t57), (0, .ref h0), (1, .int 0), (2, .int v9), (3, .int v10)]) hx hb dX8_place_151 hl (k := 0) rfl (by rw [et57]; rfl) (by decide) rfl (fun ls hl => ?_)
                  refine lv_goto (tgt := 23) hx hb dX8_place_154 (by decide) ?_
                  exact ih_hL22 t57 fn43 fn50 fn56 H locs ls (by first | omega | decide) (by first | omega | decide) (by first | omega | (simp only [Int.toNat] at *; omega)) hP hD hS (lv_sub hl [0, 1, 2, 3, 4] rfl)
                · skip
                  have fc46 : ¬ (ra42.toInt = 0) := fun h9 => c46 (Int32.toInt_inj.mp h9)
                  refine lv_iconst (v := 1) hx hb dX8_place_113 (by decide) ?_
                  subst hQ
                  have hP9 := hP.sub (ws' := (wd_1ad5b18c h0 h1 h2 h3 h4 h5 h6 v0 v1 v2 h1 g0 f3 h2 g1 f4 h3 g2 f5 h4 g3 fn43 h5 g4 fn44 h6 g5 fn45)) [0, 1, 2, 3, 4, 5, 6] rfl
                  have hD9 := hD.sub (ws' := (wd_1ad5b18c h0 h1 h2 h3 h4 h5 h6 v0 v1 v2 h1 g0 f3 h2 g1 f4 h3 g2 f5 h4 g3 fn43 h5 g4 fn44 h6 g5 fn45)) [0, 1, 2, 3, 4, 5, 6] (by decide) rfl
                  have hK9 := hK.sub (tys' := []) [] rfl
                  exact W.zret (v := 1) hx hb hr rfl (fun t ht hW => ⟨⟨1, (), rfl, ⟨by first | omega | decide, by first | omega | decide⟩, fn43, fn44, fn45, by rw [ht]; exact hP9, va_K.moved hW.alike hK9, hD9⟩, hS.F ht⟩) hS.2.2 dX8_place_114
    exact hL22 _ 0 f6 f7 f8 H locs ls (by decide) (by decide) (Nat.lt_succ_self _) hP hD hS (lv_sub hl [0, 1, 2, 3, 4] rfl)
def q_X8_fewest : List Cond := .code yX8_fewest cX8_fewest 3 (some .int) :: (([.fieldLink RX8 24 "LeftArguments$Rows" "loads" "[I", .code yJ7_fill_53178 cJ7_fill_53178 4 none, .initialized RJ7, .static yJ7_fill_53178, .methodLink RX8 58 yJ7_fill_53178, .fieldLink RX8 27 "LeftArguments$Rows" "standing" "[I", .code yX8_place cX8_place 5 (some .boolean), .fieldLink RX8 30 "LeftArguments$Rows" "bags" "I", .code yX8_standsWell cX8_standsWell 3 (some .boolean), .fieldLink RX8 37 "LeftArguments$Rows" "byRoom" "Z", .fieldLink RX8 15 "LeftArguments$Rows" "circles" "[I", .fieldLink RX8 9 "LeftArguments$Rows" "sizes" "[I", .fieldLink RX8 34 "LeftArguments$Rows" "wide" "I", .initialized RX8, .instanceMethod yX8_standsWell, .selects RX8 yX8_standsWell yX8_standsWell, .methodLink RX8 68 yX8_standsWell, .fieldLink RX8 21 "LeftArguments$Rows" "chosen" "[I", .fieldLink RX8 18 "LeftArguments$Rows" "places" "[I", .methodLink RX8 72 Lib.Math.max.name, .static Lib.Math.max.name, .initialized "java/lang/Math", .code Lib.Math.max.name Lib.Math.max.code 2 (some .int), .instanceMethod yX8_place, .selects RX8 yX8_place yX8_place, .methodLink RX8 64 yX8_place] : List Cond) ++ wsX80)
set_option maxRecDepth 20000 in
theorem g_X8_fewest_0 : GoodIn q_X8_fewest (va_wsS RX8 58 yJ7_fill_53178 q_J7_fill_53178_1) := goodIn_app (goodIn_r _ [5, 4, 3] rfl (by decide +kernel)) (goodIn_r (.code yJ7_fill_53178 cJ7_fill_53178 4 none :: []) [2] rfl (by decide +kernel))
set_option maxRecDepth 20000 in
theorem g_X8_fewest_2 : GoodIn q_X8_fewest (wsV RX8 64 RX8 yX8_place q_X8_place_8) := goodIn_app (goodIn_r _ [26, 24, 25, 14] rfl (by decide +kernel)) (goodIn_ca (goodIn_r (.code yX8_place cX8_place 5 (some .boolean) :: [.fieldLink RX8 30 "LeftArguments$Rows" "bags" "I", .code yX8_standsWell cX8_standsWell 3 (some .boolean), .fieldLink RX8 37 "LeftArguments$Rows" "byRoom" "Z", .fieldLink RX8 27 "LeftArguments$Rows" "standing" "[I", .fieldLink RX8 15 "LeftArguments$Rows" "circles" "[I", .fieldLink RX8 24 "LeftArguments$Rows" "loads" "[I", .fieldLink RX8 9 "LeftArguments$Rows" "sizes" "[I", .fieldLink RX8 34 "LeftArguments$Rows" "wide" "I", .initialized RX8, .instanceMethod yX8_standsWell, .selects RX8 yX8_standsWell yX8_standsWell, .methodLink RX8 68 yX8_standsWell, .fieldLink RX8 21 "LeftArguments$Rows" "chosen" "[I", .fieldLink RX8 18 "LeftArguments$Rows" "places" "[I", .methodLink RX8 72 Lib.Math.max.name, .static Lib.Math.max.name, .initialized "java/lang/Math", .code Lib.Math.max.name Lib.Math.max.code 2 (some .int), .code yX8_place cX8_place 5 (some .boolean), .instanceMethod yX8_place, .selects RX8 yX8_place yX8_place, .methodLink RX8 64 yX8_place]) [7, 8, 9, 10, 6, 11, 1, 12, 13, 14, 15, 16, 17, 18, 19, 20, 21, 22, 23, 7, 24, 25, 26] rfl (by decide +kernel)) (goodIn_sub (fun _ h => List.mem_cons_of_mem _ (List.mem_append_right _ h)) gwX8))
set_option maxHeartbeats 4000000 in
set_option maxRecDepth 100000 in
theorem k_X8_fewest (l : Launch) (dC : Nat → ClassId) (dI : Nat → Nat → Nat) (h0 : Nat) (h1 : Nat) (h2 : Nat) (h3 : Nat) (h4 : Nat) (h5 : Nat) (h6 : Nat) (v0 : Int32) (v1 : Int32) (v2 : Int32) (g0 : ClassId) (f3 : Nat → Int32) (g1 : ClassId) (f4 : Nat → Int32) (g2 : ClassId) (f5 : Nat → Int32) (g3 : ClassId) (f6 : Nat → Int32) (g4 : ClassId) (f7 : Nat → Int32) (g5 : ClassId) (f8 : Nat → Int32) (v9 : Int32) (i_v2 : 0 ≤ v2.toInt ∧ v2.toInt ≤ 1) (sz : Nat) : Met l yX8_fewest q_X8_fewest ({ frames := 9, cells := 0, slots := 0, locals := 216 }) (va_Pc [.ref h0, .int v9] (fun U => U.heap.size = sz ∧ va_P (dC, dI) vwCl (wd_1ad5b18c h0 h1 h2 h3 h4 h5 h6 v0 v1 v2 h1 g0 f3 h2 g1 f4 h3 g2 f5 h4 g3 f6 h5 g4 f7 h6 g5 f8) U.heap ∧ va_K (dC, dI) vwCl [(g0, .int), (g1, .int), (g2, .int), (g3, .int), (g4, .int), (g5, .int)] U ∧ va_D (fun _ => True) (wd_1ad5b18c h0 h1 h2 h3 h4 h5 h6 v0 v1 v2 h1 g0 f3 h2 g1 f4 h3 g2 f5 h4 g3 f6 h5 g4 f7 h6 g5 f8))) (va_Qi (fun (r : Int32) (_ : Unit) => -1 ≤ r.toInt ∧ r.toInt ≤ 8) (fun (_ : Unit) (t : State) => ∃ (o_h4 : Nat → Int32) (o_h5 : Nat → Int32) (o_h6 : Nat → Int32), va_P (dC, dI) vwCl (wd_1ad5b18c h0 h1 h2 h3 h4 h5 h6 v0 v1 v2 h1 g0 f3 h2 g1 f4 h3 g2 f5 h4 g3 o_h4 h5 g4 o_h5 h6 g5 o_h6) t.heap ∧ va_K (dC, dI) vwCl [] t ∧ va_D (va_A (wd_1ad5b18c h0 h1 h2 h3 h4 h5 h6 v0 v1 v2 h1 g0 f3 h2 g1 f4 h3 g2 f5 h4 g3 f6 h5 g4 f7 h6 g5 f8) sz) (wd_1ad5b18c h0 h1 h2 h3 h4 h5 h6 v0 v1 v2 h1 g0 f3 h2 g1 f4 h3 g2 f5 h4 g3 o_h4 h5 g4 o_h5 h6 g5 o_h6)) (va_A (wd_1ad5b18c h0 h1 h2 h3 h4 h5 h6 v0 v1 v2 h1 g0 f3 h2 g1 f4 h3 g2 f5 h4 g3 f6 h5 g4 f7 h6 g5 f8) sz)) 0 0 (va_A (wd_1ad5b18c h0 h1 h2 h3 h4 h5 h6 v0 v1 v2 h1 g0 f3 h2 g1 f4 h3 g2 f5 h4 g3 f6 h5 g4 f7 h6 g5 f8) sz) := by
  refine Met.ofW (cc := cX8_fewest) (maxL := 3) (ret := (some .int)) (by decide) rfl ?_
  intro p e s m args below meth c s₁ B hml hv
  obtain ⟨i_v2a, i_v2b⟩ := i_v2
  obtain ⟨rfl, hsz, hP, hK, hD0⟩ := hv
  have hx := B.exec
  have hb := B.bytes
  have hr := B.returns
  have hts := atoms_spec (ws := q_X8_fewest) B.pre
  have hown : s.vm.findClass RX8 = some m.cls := findClass_of_methodNamed B.named
  have hlocks := B.notSynchronized
  subst hsz
  have hD := hD0.self (sz := s.heap.size)
  generalize hAe : va_A (wd_1ad5b18c h0 h1 h2 h3 h4 h5 h6 v0 v1 v2 h1 g0 f3 h2 g1 f4 h3 g2 f5 h4 g3 f6 h5 g4 f7 h6 g5 f8) s.heap.size = A at hD ⊢
  have hA : ∀ q : Nat, s.heap.size ≤ q → A q := fun q h => by rw [← hAe]; exact Or.inr h
  have hS : va_S A s.heap s.heap [] := va_S.rf
  generalize hQ : (MQ below _ _ s 0 0 A) = Q
  have hl := lv_entry ([.ref h0, .int v9]) (n := 3) (Nat.le_of_ble_eq_true rfl)
  rw [lg_entry_eq]
  generalize (lg_sl ([.ref h0, .int v9]) ++ List.replicate (3 - (lg_sl ([.ref h0, .int v9])).length) Slot.unset).toArray = ls at hl ⊢
  have hl : lv_has ls 3 [(0, .ref h0), (1, .int v9)] := hl
  obtain ⟨H, hH⟩ : ∃ H : Heap, H = s.heap := ⟨_, rfl⟩
  obtain ⟨locs, hlocs⟩ : ∃ y : List Loc, y = [] := ⟨_, rfl⟩
  have hS : va_S A s.heap H locs := by rw [hH, hlocs]; exact va_S.rf
  have hP : va_P (dC, dI) vwCl (wd_1ad5b18c h0 h1 h2 h3 h4 h5 h6 v0 v1 v2 h1 g0 f3 h2 g1 f4 h3 g2 f5 h4 g3 f6 h5 g4 f7 h6 g5 f8) H := by rw [hH]; exact hP
  rw [← hH, ← hlocs]
  refine lv_iconst (v := 0) hx hb dX8_fewest_0 (by decide) ?_
  refine lv_istore_n (lv' := [(2, .int 0), (0, .ref h0), (1, .int v9)]) hx hb dX8_fewest_1 rfl hl (by decide) rfl (fun ls hl => ?_)
  have hL25 : ∀ (n9 : Nat), ∀ (x17 : Int32) (fn18 : Nat → Int32) (fn19 : Nat → Int32) (fn20 : Nat → Int32) (H : Heap) (locs : List Loc) (ls : Array Slot), 0 ≤ x17.toInt → x17.toInt ≤ 9 → (9 - x17.toInt).toNat < n9 → va_P (dC, dI) vwCl (wd_1ad5b18c h0 h1 h2 h3 h4 h5 h6 v0 v1 v2 h1 g0 f3 h2 g1 f4 h3 g2 f5 h4 g3 fn18 h5 g4 fn19 h6 g5 fn20) H → va_D A (wd_1ad5b18c h0 h1 h2 h3 h4 h5 h6 v0 v1 v2 h1 g0 f3 h2 g1 f4 h3 g2 f5 h4 g3 fn18 h5 g4 fn19 h6 g5 fn20) → va_S A s.heap H locs → lv_has ls 3 [(2, .int x17), (0, .ref h0), (1, .int v9)] → W p l e ({ frames := 9, cells := 0, slots := 0, locals := 216 }) s m ([.ref h0, .int v9] : List Value).toArray below meth c H locs 0 0 Q (F0 m 2 ls []) := by
    intro n9
    induction n9 with
    | zero => intro x17 fn18 fn19 fn20 H locs ls qa_x17 qb_x17 hm9 hP hD hS hl; exact absurd hm9 (Nat.not_lt_zero _)
    | succ n9 ih_hL25 =>
      intro x17 fn18 fn19 fn20 H locs ls qa_x17 qb_x17 hm9 hP hD hS hl
      refine lv_iload_n hx hb dX8_fewest_2 rfl (lv_at hl 0 rfl) ?_
      refine lv_iload_n hx hb dX8_fewest_3 rfl (lv_at hl 2 rfl) ?_
      refine lv_icmp_gt (tgt := 47) hx hb dX8_fewest_4 (by decide) (fun c26 => ?_) (fun c26 => ?_)
      · skip
        have fc26 : v9.toInt < x17.toInt := Int32.lt_iff_toInt_lt.mp c26
        have r1c26 := Int32.toInt_lt x17
        have r2c26 := Int32.toInt_lt v9
        have r3c26 := Int32.le_toInt x17
        have r4c26 := Int32.le_toInt v9
        refine lv_iconst (v := (-1)) hx hb dX8_fewest_47 (by decide) ?_
        subst hQ
        have hP9 := hP.sub (ws' := (wd_1ad5b18c h0 h1 h2 h3 h4 h5 h6 v0 v1 v2 h1 g0 f3 h2 g1 f4 h3 g2 f5 h4 g3 fn18 h5 g4 fn19 h6 g5 fn20)) [0, 1, 2, 3, 4, 5, 6] rfl
        have hD9 := hD.sub (ws' := (wd_1ad5b18c h0 h1 h2 h3 h4 h5 h6 v0 v1 v2 h1 g0 f3 h2 g1 f4 h3 g2 f5 h4 g3 fn18 h5 g4 fn19 h6 g5 fn20)) [0, 1, 2, 3, 4, 5, 6] (by decide) rfl
        have hK9 := hK.sub (tys' := []) [] rfl
        exact W.iret (v := (-1)) hx hb hr (fun t ht hW => ⟨⟨(-1), (), rfl, ⟨by first | omega | decide, by first | omega | decide⟩, fn18, fn19, fn20, by rw [ht]; exact hP9, va_K.moved hW.alike hK9, hD9⟩, hS.F ht⟩) hS.2.2 dX8_fewest_48
      · skip
        have fc26 : ¬ (v9.toInt < x17.toInt) := fun h9 => c26 (Int32.lt_iff_toInt_lt.mpr h9)
        have r1c26 := Int32.toInt_lt x17
        have r2c26 := Int32.toInt_lt v9
        have r3c26 := Int32.le_toInt x17
        have r4c26 := Int32.le_toInt v9
        refine lv_iload_n hx hb dX8_fewest_7 rfl (lv_at hl 0 rfl) ?_
        refine lv_bipush (v := 8) hx hb dX8_fewest_8 (by decide) ?_
        refine lv_icmp_gt (tgt := 47) hx hb dX8_fewest_10 (by decide) (fun c27 => ?_) (fun c27 => ?_)
        · skip
          have fc27 : 8 < x17.toInt := Int32.lt_iff_toInt_lt.mp c27
          refine lv_iconst (v := (-1)) hx hb dX8_fewest_47 (by decide) ?_
          subst hQ
          have hP9 := hP.sub (ws' := (wd_1ad5b18c h0 h1 h2 h3 h4 h5 h6 v0 v1 v2 h1 g0 f3 h2 g1 f4 h3 g2 f5 h4 g3 fn18 h5 g4 fn19 h6 g5 fn20)) [0, 1, 2, 3, 4, 5, 6] rfl
          have hD9 := hD.sub (ws' := (wd_1ad5b18c h0 h1 h2 h3 h4 h5 h6 v0 v1 v2 h1 g0 f3 h2 g1 f4 h3 g2 f5 h4 g3 fn18 h5 g4 fn19 h6 g5 fn20)) [0, 1, 2, 3, 4, 5, 6] (by decide) rfl
          have hK9 := hK.sub (tys' := []) [] rfl
          exact W.iret (v := (-1)) hx hb hr (fun t ht hW => ⟨⟨(-1), (), rfl, ⟨by first | omega | decide, by first | omega | decide⟩, fn18, fn19, fn20, by rw [ht]; exact hP9, va_K.moved hW.alike hK9, hD9⟩, hS.F ht⟩) hS.2.2 dX8_fewest_48
        · skip
          have fc27 : ¬ (8 < x17.toInt) := fun h9 => c27 (Int32.lt_iff_toInt_lt.mpr h9)
          refine lv_aload_n hx hb dX8_fewest_13 rfl (lv_at hl 1 rfl) ?_
          refine va_get (D := (dC, dI)) (ci := 8) (v := .ref h5) (C := RX8) (T := TX8) (N := 9) hx hb hts (fun _ h => List.mem_cons_of_mem _ (List.mem_append_right _ h)) hown hK hP 0 rfl rfl 4 (by decide) (hts (.fieldLink RX8 24 "LeftArguments$Rows" "loads" "[I") (List.mem_cons_of_mem _ (List.mem_append_left _ (List.mem_of_getElem? (i := 0) rfl)))) (fun _ h9 => h9) rfl dX8_fewest_14 ?_
          refine lv_iconst (v := 0) hx hb dX8_fewest_17 (by decide) ?_
          have hPc := hP.sub (ws' := (wd_063f09b6 h5 g4 fn19)) [5] rfl
          have hDc := hD.sub (ws' := (wd_063f09b6 h5 g4 fn19)) [5] (by decide) rfl
          have hKc := hK.sub (tys' := [(g4, .int)]) [4] rfl
          have hFc := va_free (wc := (wd_063f09b6 h5 g4 fn19)) hD hS hA [5] rfl
          refine va_callv (va_runS (As := [.ref h5, .int 0]) (rest := []) ⟨hx, hb, hml, hown, hts⟩ (k_J7_fill_53178_1 l dC dI h5 g4 fn19 0  H.size) (va_cwS 2 hts g_X8_fewest_0 rfl rfl rfl (by decide +kernel) ⟨Nat.le_of_ble_eq_true rfl, Nat.le_of_ble_eq_true rfl⟩) (pv_PS hPc hKc hDc) rfl rfl hl.1 rfl (lv_room (Nat.le_of_ble_eq_true rfl)) dX8_fewest_18 ⟨Nat.le_of_ble_eq_true rfl, Nat.le_of_ble_eq_true rfl⟩) hS (fun q _ h => hFc q h) hFc (fun u t H1 locs ht hvm hwra28 hB hz1 hk1 hS => ?_)
          obtain ⟨fn29, hP1, hK1, hD1⟩ := hB
          rw [ht] at hP1
          obtain ⟨hP2, hD2⟩ := va_join (wr := (wd_0d02476e h0 h1 h2 h3 h4 h5 h6 v0 v1 v2 h1 g0 f3 h2 g1 f4 h3 g2 f5 h4 g3 fn18 h6 g5 fn20)) (w1 := (wd_063f09b6 h5 g4 fn29)) hP hD [5] [0, 1, 2, 3, 4, 6] rfl rfl (by decide) (by decide) hk1 hFc hP1 hD1
          clear hP hD hPc hDc hKc hFc hP1 hK1 hD1 hk1 hz1
          generalize H1 = H at hP2 hS ⊢
          have hP := hP2.sub (ws' := (wd_1ad5b18c h0 h1 h2 h3 h4 h5 h6 v0 v1 v2 h1 g0 f3 h2 g1 f4 h3 g2 f5 h4 g3 fn18 h5 g4 fn29 h6 g5 fn20)) [0, 1, 2, 3, 4, 6, 5] rfl
          have hD := hD2.sub (ws' := (wd_1ad5b18c h0 h1 h2 h3 h4 h5 h6 v0 v1 v2 h1 g0 f3 h2 g1 f4 h3 g2 f5 h4 g3 fn18 h5 g4 fn29 h6 g5 fn20)) [0, 1, 2, 3, 4, 6, 5] (by decide) rfl
          clear hP2 hD2
          refine lv_aload_n hx hb dX8_fewest_21 rfl (lv_at hl 1 rfl) ?_
          refine va_get (D := (dC, dI)) (ci := 8) (v := .ref h6) (C := RX8) (T := TX8) (N := 9) hx hb hts (fun _ h => List.mem_cons_of_mem _ (List.mem_append_right _ h)) hown hK hP 0 rfl rfl 5 (by decide) (hts (.fieldLink RX8 27 "LeftArguments$Rows" "standing" "[I") (List.mem_cons_of_mem _ (List.mem_append_left _ (List.mem_of_getElem? (i := 5) rfl)))) (fun _ h9 => h9) rfl dX8_fewest_22 ?_
          refine lv_iconst (v := 0) hx hb dX8_fewest_25 (by decide) ?_
          have hPc := hP.sub (ws' := (wd_063f09b6 h6 g5 fn20)) [6] rfl
          have hDc := hD.sub (ws' := (wd_063f09b6 h6 g5 fn20)) [6] (by decide) rfl
          have hKc := hK.sub (tys' := [(g5, .int)]) [5] rfl
          have hFc := va_free (wc := (wd_063f09b6 h6 g5 fn20)) hD hS hA [6] rfl
          refine va_callv (va_runS (As := [.ref h6, .int 0]) (rest := []) ⟨hx, hb, hml, hown, hts⟩ (k_J7_fill_53178_1 l dC dI h6 g5 fn20 0  H.size) (va_cwS 2 hts g_X8_fewest_0 rfl rfl rfl (by decide +kernel) ⟨Nat.le_of_ble_eq_true rfl, Nat.le_of_ble_eq_true rfl⟩) (pv_PS hPc hKc hDc) rfl rfl hl.1 rfl (lv_room (Nat.le_of_ble_eq_true rfl)) dX8_fewest_26 ⟨Nat.le_of_ble_eq_true rfl, Nat.le_of_ble_eq_true rfl⟩) hS (fun q _ h => hFc q h) hFc (fun u t H1 locs ht hvm hwra30 hB hz1 hk1 hS => ?_)
          obtain ⟨fn31, hP1, hK1, hD1⟩ := hB
          rw [ht] at hP1
          obtain ⟨hP2, hD2⟩ := va_join (wr := (wd_0d02476e h0 h1 h2 h3 h4 h5 h6 v0 v1 v2 h1 g0 f3 h2 g1 f4 h3 g2 f5 h4 g3 fn18 h5 g4 fn29)) (w1 := (wd_063f09b6 h6 g5 fn31)) hP hD [6] [0, 1, 2, 3, 4, 5] rfl rfl (by decide) (by decide) hk1 hFc hP1 hD1
          clear hP hD hPc hDc hKc hFc hP1 hK1 hD1 hk1 hz1
          generalize H1 = H at hP2 hS ⊢
          have hP : va_P (dC, dI) vwCl (wd_1ad5b18c h0 h1 h2 h3 h4 h5 h6 v0 v1 v2 h1 g0 f3 h2 g1 f4 h3 g2 f5 h4 g3 fn18 h5 g4 fn29 h6 g5 fn31) H := hP2
          have hD : va_D A (wd_1ad5b18c h0 h1 h2 h3 h4 h5 h6 v0 v1 v2 h1 g0 f3 h2 g1 f4 h3 g2 f5 h4 g3 fn18 h5 g4 fn29 h6 g5 fn31) := hD2
          clear hP2 hD2
          refine lv_aload_n hx hb dX8_fewest_29 rfl (lv_at hl 1 rfl) ?_
          refine lv_iconst (v := 0) hx hb dX8_fewest_30 (by decide) ?_
          refine lv_iconst (v := 0) hx hb dX8_fewest_31 (by decide) ?_
          refine lv_iload_n hx hb dX8_fewest_32 rfl (lv_at hl 0 rfl) ?_
          have hPc := hP.sub (ws' := (wd_1ad5b18c h0 h1 h2 h3 h4 h5 h6 v0 v1 v2 h1 g0 f3 h2 g1 f4 h3 g2 f5 h4 g3 fn18 h5 g4 fn29 h6 g5 fn31)) [0, 1, 2, 3, 4, 5, 6] rfl
          have hDc := hD.sub (ws' := (wd_1ad5b18c h0 h1 h2 h3 h4 h5 h6 v0 v1 v2 h1 g0 f3 h2 g1 f4 h3 g2 f5 h4 g3 fn18 h5 g4 fn29 h6 g5 fn31)) [0, 1, 2, 3, 4, 5, 6] (by decide) rfl
          have hKc := hK.sub (tys' := [(g0, .int), (g1, .int), (g2, .int), (g3, .int), (g4, .int), (g5, .int)]) [0, 1, 2, 3, 4, 5] rfl
          have hFc := va_free (wc := (wd_1ad5b18c h0 h1 h2 h3 h4 h5 h6 v0 v1 v2 h1 g0 f3 h2 g1 f4 h3 g2 f5 h4 g3 fn18 h5 g4 fn29 h6 g5 fn31)) hD hS hA [0, 1, 2, 3, 4, 5, 6] rfl
          refine va_calli (va_runV (As := [.int 0, .int 0, .int x17]) (rest := []) ⟨hx, hb, hml, hown, hts⟩ (k_X8_place_8 l dC dI h0 h1 h2 h3 h4 h5 h6 v0 v1 v2 g0 f3 g1 f4 g2 f5 g3 fn18 g4 fn29 g5 fn31 0 x17 ⟨i_v2a, i_v2b⟩ H.size) (cwV 3 hts g_X8_fewest_2 rfl rfl rfl (by decide +kernel) ⟨Nat.le_of_ble_eq_true rfl, Nat.le_of_ble_eq_true rfl⟩) (pv_PV8 hPc hKc hDc (q0 := 0) rfl) rfl rfl hl.1 rfl (lv_room (Nat.le_of_ble_eq_true rfl)) dX8_fewest_33 ⟨Nat.le_of_ble_eq_true rfl, Nat.le_of_ble_eq_true rfl⟩) hS (fun q _ h => hFc q h) hFc (fun ra32 u t H1 locs ht hvm hwra32 hB hz1 hk1 hS => ?_)
          obtain ⟨fn33, fn34, fn35, hP1, hK1, hD1⟩ := hB
          rw [ht] at hP1
          obtain ⟨hP2, hD2⟩ := va_join (wr := []) (w1 := (wd_1ad5b18c h0 h1 h2 h3 h4 h5 h6 v0 v1 v2 h1 g0 f3 h2 g1 f4 h3 g2 f5 h4 g3 fn33 h5 g4 fn34 h6 g5 fn35)) hP hD [0, 1, 2, 3, 4, 5, 6] [] rfl rfl (by decide) (by decide) hk1 hFc hP1 hD1
          clear hP hD hPc hDc hKc hFc hP1 hK1 hD1 hk1 hz1
          generalize H1 = H at hP2 hS ⊢
          have hP : va_P (dC, dI) vwCl (wd_1ad5b18c h0 h1 h2 h3 h4 h5 h6 v0 v1 v2 h1 g0 f3 h2 g1 f4 h3 g2 f5 h4 g3 fn33 h5 g4 fn34 h6 g5 fn35) H := hP2
          have hD : va_D A (wd_1ad5b18c h0 h1 h2 h3 h4 h5 h6 v0 v1 v2 h1 g0 f3 h2 g1 f4 h3 g2 f5 h4 g3 fn33 h5 g4 fn34 h6 g5 fn35) := hD2
          clear hP2 hD2
          obtain ⟨wa_ra32, wb_ra32⟩ := hwra32
          have wa_ra32 : 0 ≤ ra32.toInt := wa_ra32
          have wb_ra32 : ra32.toInt ≤ 1 := wb_ra32
          refine lv_if_eq (tgt := 41) hx hb dX8_fewest_36 (by decide) (fun c36 => ?_) (fun c36 => ?_)
          · skip
            have fc36 : ra32.toInt = 0 := congrArg Int32.toInt c36
            obtain ⟨t37, et37⟩ : ∃ y : Int32, y = x17 + 1 := ⟨_, rfl⟩
            have gt37 : t37.toInt = x17.toInt + (1) := pv_add (a := x17.toInt) (b := (1)) et37 rfl (by decide) (by omega) (by omega)
            refine lv_iinc (v := t37) (lv' := [(2, .int t37), (0, .ref h0), (1, .int v9)]) hx hb dX8_fewest_41 hl (k := 0) rfl (by rw [et37]; rfl) (by decide) rfl (fun ls hl => ?_)
            refine lv_goto (tgt := 2) hx hb dX8_fewest_44 (by decide) ?_
            exact ih_hL25 t37 fn33 fn34 fn35 H locs ls (by first | omega | decide) (by first | omega | decide) (by first | omega | (simp only [Int.toNat] at *; omega)) hP hD hS (lv_sub hl [0, 1, 2] rfl)
          · skip
            have fc36 : ¬ (ra32.toInt = 0) := fun h9 => c36 (Int32.toInt_inj.mp h9)
            refine lv_iload_n hx hb dX8_fewest_39 rfl (lv_at hl 0 rfl) ?_
            subst hQ
            have hP9 := hP.sub (ws' := (wd_1ad5b18c h0 h1 h2 h3 h4 h5 h6 v0 v1 v2 h1 g0 f3 h2 g1 f4 h3 g2 f5 h4 g3 fn33 h5 g4 fn34 h6 g5 fn35)) [0, 1, 2, 3, 4, 5, 6] rfl
            have hD9 := hD.sub (ws' := (wd_1ad5b18c h0 h1 h2 h3 h4 h5 h6 v0 v1 v2 h1 g0 f3 h2 g1 f4 h3 g2 f5 h4 g3 fn33 h5 g4 fn34 h6 g5 fn35)) [0, 1, 2, 3, 4, 5, 6] (by decide) rfl
            have hK9 := hK.sub (tys' := []) [] rfl
            exact W.iret (v := x17) hx hb hr (fun t ht hW => ⟨⟨x17, (), rfl, ⟨by first | omega | decide, by first | omega | decide⟩, fn33, fn34, fn35, by rw [ht]; exact hP9, va_K.moved hW.alike hK9, hD9⟩, hS.F ht⟩) hS.2.2 dX8_fewest_40
  exact hL25 _ 0 f6 f7 f8 H locs ls (by decide) (by decide) (Nat.lt_succ_self _) hP hD hS (lv_sub hl [0, 1, 2] rfl)
def q_X8_fewestByPeace : List Cond := .code yX8_fewestByPeace cX8_fewestByPeace 1 (some .int) :: (([.fieldLink RX8 37 "LeftArguments$Rows" "byRoom" "Z", .code yX8_fewest cX8_fewest 3 (some .int), .fieldLink RX8 24 "LeftArguments$Rows" "loads" "[I", .code yJ7_fill_53178 cJ7_fill_53178 4 none, .initialized RJ7, .static yJ7_fill_53178, .methodLink RX8 58 yJ7_fill_53178, .fieldLink RX8 27 "LeftArguments$Rows" "standing" "[I", .code yX8_place cX8_place 5 (some .boolean), .fieldLink RX8 30 "LeftArguments$Rows" "bags" "I", .code yX8_standsWell cX8_standsWell 3 (some .boolean), .fieldLink RX8 15 "LeftArguments$Rows" "circles" "[I", .fieldLink RX8 9 "LeftArguments$Rows" "sizes" "[I", .fieldLink RX8 34 "LeftArguments$Rows" "wide" "I", .initialized RX8, .instanceMethod yX8_standsWell, .selects RX8 yX8_standsWell yX8_standsWell, .methodLink RX8 68 yX8_standsWell, .fieldLink RX8 21 "LeftArguments$Rows" "chosen" "[I", .fieldLink RX8 18 "LeftArguments$Rows" "places" "[I", .methodLink RX8 72 Lib.Math.max.name, .static Lib.Math.max.name, .initialized "java/lang/Math", .code Lib.Math.max.name Lib.Math.max.code 2 (some .int), .instanceMethod yX8_place, .selects RX8 yX8_place yX8_place, .methodLink RX8 64 yX8_place, .instanceMethod yX8_fewest, .selects RX8 yX8_fewest yX8_fewest, .methodLink RX8 55 yX8_fewest] : List Cond) ++ wsX80)
set_option maxRecDepth 20000 in
theorem g_X8_fewestByPeace_0 : GoodIn q_X8_fewestByPeace (wsV RX8 55 RX8 yX8_fewest q_X8_fewest) := goodIn_app (goodIn_r _ [30, 28, 29, 15] rfl (by decide +kernel)) (goodIn_ca (goodIn_r (.code yX8_fewest cX8_fewest 3 (some .int) :: [.fieldLink RX8 24 "LeftArguments$Rows" "loads" "[I", .code yJ7_fill_53178 cJ7_fill_53178 4 none, .initialized RJ7, .static yJ7_fill_53178, .methodLink RX8 58 yJ7_fill_53178, .fieldLink RX8 27 "LeftArguments$Rows" "standing" "[I", .code yX8_place cX8_place 5 (some .boolean), .fieldLink RX8 30 "LeftArguments$Rows" "bags" "I", .code yX8_standsWell cX8_standsWell 3 (some .boolean), .fieldLink RX8 37 "LeftArguments$Rows" "byRoom" "Z", .fieldLink RX8 15 "LeftArguments$Rows" "circles" "[I", .fieldLink RX8 9 "LeftArguments$Rows" "sizes" "[I", .fieldLink RX8 34 "LeftArguments$Rows" "wide" "I", .initialized RX8, .instanceMethod yX8_standsWell, .selects RX8 yX8_standsWell yX8_standsWell, .methodLink RX8 68 yX8_standsWell, .fieldLink RX8 21 "LeftArguments$Rows" "chosen" "[I", .fieldLink RX8 18 "LeftArguments$Rows" "places" "[I", .methodLink RX8 72 Lib.Math.max.name, .static Lib.Math.max.name, .initialized "java/lang/Math", .code Lib.Math.max.name Lib.Math.max.code 2 (some .int), .instanceMethod yX8_place, .selects RX8 yX8_place yX8_place, .methodLink RX8 64 yX8_place]) [2, 3, 4, 5, 6, 7, 8, 9, 10, 11, 1, 12, 13, 14, 15, 16, 17, 18, 19, 20, 21, 22, 23, 24, 25, 26, 27] rfl (by decide +kernel)) (goodIn_sub (fun _ h => List.mem_cons_of_mem _ (List.mem_append_right _ h)) gwX8))
set_option maxHeartbeats 4000000 in
set_option maxRecDepth 100000 in
theorem k_X8_fewestByPeace (l : Launch) (dC : Nat → ClassId) (dI : Nat → Nat → Nat) (h0 : Nat) (h1 : Nat) (h2 : Nat) (h3 : Nat) (h4 : Nat) (h5 : Nat) (h6 : Nat) (v0 : Int32) (v1 : Int32) (v2 : Int32) (g0 : ClassId) (f3 : Nat → Int32) (g1 : ClassId) (f4 : Nat → Int32) (g2 : ClassId) (f5 : Nat → Int32) (g3 : ClassId) (f6 : Nat → Int32) (g4 : ClassId) (f7 : Nat → Int32) (g5 : ClassId) (f8 : Nat → Int32) (i_v2 : 0 ≤ v2.toInt ∧ v2.toInt ≤ 1) (sz : Nat) : Met l yX8_fewestByPeace q_X8_fewestByPeace ({ frames := 10, cells := 0, slots := 0, locals := 238 }) (va_Pc [.ref h0] (fun U => U.heap.size = sz ∧ va_P (dC, dI) vwCl (wd_1ad5b18c h0 h1 h2 h3 h4 h5 h6 v0 v1 v2 h1 g0 f3 h2 g1 f4 h3 g2 f5 h4 g3 f6 h5 g4 f7 h6 g5 f8) U.heap ∧ va_K (dC, dI) vwCl [(g0, .int), (g1, .int), (g2, .int), (g3, .int), (g4, .int), (g5, .int)] U ∧ va_D (fun _ => True) (wd_1ad5b18c h0 h1 h2 h3 h4 h5 h6 v0 v1 v2 h1 g0 f3 h2 g1 f4 h3 g2 f5 h4 g3 f6 h5 g4 f7 h6 g5 f8))) (va_Qi (fun (r : Int32) (_ : Unit) => -1 ≤ r.toInt ∧ r.toInt ≤ 8) (fun (_ : Unit) (t : State) => ∃ (o_h0_8 : Int32) (o_h4 : Nat → Int32) (o_h5 : Nat → Int32) (o_h6 : Nat → Int32), 0 ≤ o_h0_8.toInt ∧ o_h0_8.toInt ≤ 1 ∧ va_P (dC, dI) vwCl (wd_1ad5b18c h0 h1 h2 h3 h4 h5 h6 v0 v1 o_h0_8 h1 g0 f3 h2 g1 f4 h3 g2 f5 h4 g3 o_h4 h5 g4 o_h5 h6 g5 o_h6) t.heap ∧ va_K (dC, dI) vwCl [] t ∧ va_D (va_A (wd_1ad5b18c h0 h1 h2 h3 h4 h5 h6 v0 v1 v2 h1 g0 f3 h2 g1 f4 h3 g2 f5 h4 g3 f6 h5 g4 f7 h6 g5 f8) sz) (wd_1ad5b18c h0 h1 h2 h3 h4 h5 h6 v0 v1 o_h0_8 h1 g0 f3 h2 g1 f4 h3 g2 f5 h4 g3 o_h4 h5 g4 o_h5 h6 g5 o_h6)) (va_A (wd_1ad5b18c h0 h1 h2 h3 h4 h5 h6 v0 v1 v2 h1 g0 f3 h2 g1 f4 h3 g2 f5 h4 g3 f6 h5 g4 f7 h6 g5 f8) sz)) 0 0 (va_A (wd_1ad5b18c h0 h1 h2 h3 h4 h5 h6 v0 v1 v2 h1 g0 f3 h2 g1 f4 h3 g2 f5 h4 g3 f6 h5 g4 f7 h6 g5 f8) sz) := by
  refine Met.ofW (cc := cX8_fewestByPeace) (maxL := 1) (ret := (some .int)) (by decide) rfl ?_
  intro p e s m args below meth c s₁ B hml hv
  obtain ⟨i_v2a, i_v2b⟩ := i_v2
  obtain ⟨rfl, hsz, hP, hK, hD0⟩ := hv
  have hx := B.exec
  have hb := B.bytes
  have hr := B.returns
  have hts := atoms_spec (ws := q_X8_fewestByPeace) B.pre
  have hown : s.vm.findClass RX8 = some m.cls := findClass_of_methodNamed B.named
  have hlocks := B.notSynchronized
  subst hsz
  have hD := hD0.self (sz := s.heap.size)
  generalize hAe : va_A (wd_1ad5b18c h0 h1 h2 h3 h4 h5 h6 v0 v1 v2 h1 g0 f3 h2 g1 f4 h3 g2 f5 h4 g3 f6 h5 g4 f7 h6 g5 f8) s.heap.size = A at hD ⊢
  have hA : ∀ q : Nat, s.heap.size ≤ q → A q := fun q h => by rw [← hAe]; exact Or.inr h
  have hS : va_S A s.heap s.heap [] := va_S.rf
  generalize hQ : (MQ below _ _ s 0 0 A) = Q
  have hl := lv_entry ([.ref h0]) (n := 1) (Nat.le_of_ble_eq_true rfl)
  rw [lg_entry_eq]
  generalize (lg_sl ([.ref h0]) ++ List.replicate (1 - (lg_sl ([.ref h0])).length) Slot.unset).toArray = ls at hl ⊢
  have hl : lv_has ls 1 [(0, .ref h0)] := hl
  obtain ⟨H, hH⟩ : ∃ H : Heap, H = s.heap := ⟨_, rfl⟩
  obtain ⟨locs, hlocs⟩ : ∃ y : List Loc, y = [] := ⟨_, rfl⟩
  have hS : va_S A s.heap H locs := by rw [hH, hlocs]; exact va_S.rf
  have hP : va_P (dC, dI) vwCl (wd_1ad5b18c h0 h1 h2 h3 h4 h5 h6 v0 v1 v2 h1 g0 f3 h2 g1 f4 h3 g2 f5 h4 g3 f6 h5 g4 f7 h6 g5 f8) H := by rw [hH]; exact hP
  rw [← hH, ← hlocs]
  refine lv_aload_n hx hb dX8_fewestByPeace_0 rfl (lv_at hl 0 rfl) ?_
  refine lv_iconst (v := 0) hx hb dX8_fewestByPeace_1 (by decide) ?_
  refine va_put (D := (dC, dI)) (ci := 8) (v := .int 0) (ty := .boolean) (C := RX8) (T := TX8) (N := 9) hx hb hts (fun _ h => List.mem_cons_of_mem _ (List.mem_append_right _ h)) tyX8 tyX8_ok nmX8 hown hK hP hD hS 0 rfl rfl 8 (by decide) (hts (.fieldLink RX8 37 "LeftArguments$Rows" "byRoom" "Z") (List.mem_cons_of_mem _ (List.mem_append_left _ (List.mem_of_getElem? (i := 0) rfl)))) (fun _ h9 => h9) rfl (by decide +kernel) rfl rfl (Nat.le_of_ble_eq_true rfl) dX8_fewestByPeace_2 (fun H locs hP hD hS => ?_)
  have hP : va_P (dC, dI) vwCl (wd_1ad5b18c h0 h1 h2 h3 h4 h5 h6 v0 v1 0 h1 g0 f3 h2 g1 f4 h3 g2 f5 h4 g3 f6 h5 g4 f7 h6 g5 f8) H := hP
  have hD : va_D A (wd_1ad5b18c h0 h1 h2 h3 h4 h5 h6 v0 v1 0 h1 g0 f3 h2 g1 f4 h3 g2 f5 h4 g3 f6 h5 g4 f7 h6 g5 f8) := hD
  refine lv_aload_n hx hb dX8_fewestByPeace_5 rfl (lv_at hl 0 rfl) ?_
  refine lv_bipush (v := 8) hx hb dX8_fewestByPeace_6 (by decide) ?_
  have hPc := hP.sub (ws' := (wd_1ad5b18c h0 h1 h2 h3 h4 h5 h6 v0 v1 0 h1 g0 f3 h2 g1 f4 h3 g2 f5 h4 g3 f6 h5 g4 f7 h6 g5 f8)) [0, 1, 2, 3, 4, 5, 6] rfl
  have hDc := hD.sub (ws' := (wd_1ad5b18c h0 h1 h2 h3 h4 h5 h6 v0 v1 0 h1 g0 f3 h2 g1 f4 h3 g2 f5 h4 g3 f6 h5 g4 f7 h6 g5 f8)) [0, 1, 2, 3, 4, 5, 6] (by decide) rfl
  have hKc := hK.sub (tys' := [(g0, .int), (g1, .int), (g2, .int), (g3, .int), (g4, .int), (g5, .int)]) [0, 1, 2, 3, 4, 5] rfl
  have hFc := va_free (wc := (wd_1ad5b18c h0 h1 h2 h3 h4 h5 h6 v0 v1 0 h1 g0 f3 h2 g1 f4 h3 g2 f5 h4 g3 f6 h5 g4 f7 h6 g5 f8)) hD hS hA [0, 1, 2, 3, 4, 5, 6] rfl
  refine va_calli (va_runV (As := [.int 8]) (rest := []) ⟨hx, hb, hml, hown, hts⟩ (k_X8_fewest l dC dI h0 h1 h2 h3 h4 h5 h6 v0 v1 0 g0 f3 g1 f4 g2 f5 g3 f6 g4 f7 g5 f8 8 ⟨by decide, by decide⟩ H.size) (cwV 1 hts g_X8_fewestByPeace_0 rfl rfl rfl (by decide +kernel) ⟨Nat.le_of_ble_eq_true rfl, Nat.le_of_ble_eq_true rfl⟩) (pv_PV8 hPc hKc hDc (q0 := 0) rfl) rfl rfl hl.1 rfl (lv_room (Nat.le_of_ble_eq_true rfl)) dX8_fewestByPeace_8 ⟨Nat.le_of_ble_eq_true rfl, Nat.le_of_ble_eq_true rfl⟩) hS (fun q _ h => hFc q h) hFc (fun ra1 u t H1 locs ht hvm hwra1 hB hz1 hk1 hS => ?_)
  obtain ⟨fn2, fn3, fn4, hP1, hK1, hD1⟩ := hB
  rw [ht] at hP1
  obtain ⟨hP2, hD2⟩ := va_join (wr := []) (w1 := (wd_1ad5b18c h0 h1 h2 h3 h4 h5 h6 v0 v1 0 h1 g0 f3 h2 g1 f4 h3 g2 f5 h4 g3 fn2 h5 g4 fn3 h6 g5 fn4)) hP hD [0, 1, 2, 3, 4, 5, 6] [] rfl rfl (by decide) (by decide) hk1 hFc hP1 hD1
  clear hP hD hPc hDc hKc hFc hP1 hK1 hD1 hk1 hz1
  generalize H1 = H at hP2 hS ⊢
  have hP : va_P (dC, dI) vwCl (wd_1ad5b18c h0 h1 h2 h3 h4 h5 h6 v0 v1 0 h1 g0 f3 h2 g1 f4 h3 g2 f5 h4 g3 fn2 h5 g4 fn3 h6 g5 fn4) H := hP2
  have hD : va_D A (wd_1ad5b18c h0 h1 h2 h3 h4 h5 h6 v0 v1 0 h1 g0 f3 h2 g1 f4 h3 g2 f5 h4 g3 fn2 h5 g4 fn3 h6 g5 fn4) := hD2
  clear hP2 hD2
  obtain ⟨wa_ra1, wb_ra1⟩ := hwra1
  have wa_ra1 : -1 ≤ ra1.toInt := wa_ra1
  have wb_ra1 : ra1.toInt ≤ 8 := wb_ra1
  subst hQ
  have hP9 := hP.sub (ws' := (wd_1ad5b18c h0 h1 h2 h3 h4 h5 h6 v0 v1 0 h1 g0 f3 h2 g1 f4 h3 g2 f5 h4 g3 fn2 h5 g4 fn3 h6 g5 fn4)) [0, 1, 2, 3, 4, 5, 6] rfl
  have hD9 := hD.sub (ws' := (wd_1ad5b18c h0 h1 h2 h3 h4 h5 h6 v0 v1 0 h1 g0 f3 h2 g1 f4 h3 g2 f5 h4 g3 fn2 h5 g4 fn3 h6 g5 fn4)) [0, 1, 2, 3, 4, 5, 6] (by decide) rfl
  have hK9 := hK.sub (tys' := []) [] rfl
  exact W.iret (v := ra1) hx hb hr (fun t ht hW => ⟨⟨ra1, (), rfl, ⟨by first | omega | decide, by first | omega | decide⟩, 0, fn2, fn3, fn4, by decide, by decide, by rw [ht]; exact hP9, va_K.moved hW.alike hK9, hD9⟩, hS.F ht⟩) hS.2.2 dX8_fewestByPeace_11
def q_X10_cut : List Cond := .code yX10_cut cX10_cut 2 none :: (([.fieldLink RX10 15 "LeftArguments$Tape" "used" "I", .methodLink RX10 28 Lib.Math.min.name, .static Lib.Math.min.name, .initialized "java/lang/Math", .code Lib.Math.min.name Lib.Math.min.code 2 (some .int), .methodLink RX10 34 Lib.Math.max.name, .static Lib.Math.max.name, .code Lib.Math.max.name Lib.Math.max.code 2 (some .int)] : List Cond) ++ wsX100)
set_option maxHeartbeats 4000000 in
set_option maxRecDepth 100000 in
theorem k_X10_cut (l : Launch) (dC : Nat → ClassId) (dI : Nat → Nat → Nat) (h0 : Nat) (r0 : Nat) (v0 : Int32) (v1 : Int32) (v2 : Int32) (v3 : Int32) (v4 : Int32) (i_v0 : 0 ≤ v0.toInt ∧ v0.toInt ≤ 240) (sz : Nat) : Met l yX10_cut q_X10_cut ({ frames := 1, cells := 0, slots := 0, locals := 15 }) (va_Pc [.ref h0, .int v4] (fun U => U.heap.size = sz ∧ va_P (dC, dI) vwCl (wd_09b0abee h0 r0 v0 v1 v2 v3) U.heap ∧ va_K (dC, dI) vwCl [] U ∧ va_D (fun _ => True) (wd_09b0abee h0 r0 v0 v1 v2 v3))) (va_Qv (fun (_ : Unit) => True) (fun (_ : Unit) (t : State) => (∃ (o_h0_1 : Int32), 0 ≤ o_h0_1.toInt ∧ o_h0_1.toInt ≤ 240 ∧ (0 ≤ v4.toInt → v4.toInt ≤ v0.toInt → o_h0_1.toInt = v4.toInt) ∧ va_P (dC, dI) vwCl (wd_09b0abee h0 r0 o_h0_1 v1 v2 v3) t.heap ∧ va_K (dC, dI) vwCl [] t ∧ va_D (va_A (wd_09b0abee h0 r0 v0 v1 v2 v3) sz) (wd_09b0abee h0 r0 o_h0_1 v1 v2 v3))) (va_A (wd_09b0abee h0 r0 v0 v1 v2 v3) sz)) 0 0 (va_A (wd_09b0abee h0 r0 v0 v1 v2 v3) sz) := by
  refine Met.ofW (cc := cX10_cut) (maxL := 2) (ret := none) (by decide) rfl ?_
  intro p e s m args below meth c s₁ B hml hv
  obtain ⟨i_v0a, i_v0b⟩ := i_v0
  obtain ⟨rfl, hsz, hP, hK, hD0⟩ := hv
  have hx := B.exec
  have hb := B.bytes
  have hr := B.returns
  have hts := atoms_spec (ws := q_X10_cut) B.pre
  have hown : s.vm.findClass RX10 = some m.cls := findClass_of_methodNamed B.named
  have hlocks := B.notSynchronized
  subst hsz
  have hD := hD0.self (sz := s.heap.size)
  generalize hAe : va_A (wd_09b0abee h0 r0 v0 v1 v2 v3) s.heap.size = A at hD ⊢
  have hA : ∀ q : Nat, s.heap.size ≤ q → A q := fun q h => by rw [← hAe]; exact Or.inr h
  have hS : va_S A s.heap s.heap [] := va_S.rf
  generalize hQ : (MQ below _ _ s 0 0 A) = Q
  have hl := lv_entry ([.ref h0, .int v4]) (n := 2) (Nat.le_of_ble_eq_true rfl)
  rw [lg_entry_eq]
  generalize (lg_sl ([.ref h0, .int v4]) ++ List.replicate (2 - (lg_sl ([.ref h0, .int v4])).length) Slot.unset).toArray = ls at hl ⊢
  have hl : lv_has ls 2 [(0, .ref h0), (1, .int v4)] := hl
  obtain ⟨H, hH⟩ : ∃ H : Heap, H = s.heap := ⟨_, rfl⟩
  obtain ⟨locs, hlocs⟩ : ∃ y : List Loc, y = [] := ⟨_, rfl⟩
  have hS : va_S A s.heap H locs := by rw [hH, hlocs]; exact va_S.rf
  have hP : va_P (dC, dI) vwCl (wd_09b0abee h0 r0 v0 v1 v2 v3) H := by rw [hH]; exact hP
  rw [← hH, ← hlocs]
  refine lv_aload_n hx hb dX10_cut_0 rfl (lv_at hl 0 rfl) ?_
  refine lv_iconst (v := 0) hx hb dX10_cut_1 (by decide) ?_
  refine lv_aload_n hx hb dX10_cut_2 rfl (lv_at hl 0 rfl) ?_
  refine va_get (D := (dC, dI)) (ci := 10) (v := .int v0) (C := RX10) (T := TX10) (N := 5) hx hb hts (fun _ h => List.mem_cons_of_mem _ (List.mem_append_right _ h)) hown hK hP 0 rfl rfl 1 (by decide) (hts (.fieldLink RX10 15 "LeftArguments$Tape" "used" "I") (List.mem_cons_of_mem _ (List.mem_append_left _ (List.mem_of_getElem? (i := 0) rfl)))) (fun _ h9 => h9) rfl dX10_cut_3 ?_
  refine lv_iload_n hx hb dX10_cut_6 rfl (lv_at hl 1 rfl) ?_
  refine va_mmin hx hb (by rw [hml]; exact hl.1.symm) hown (hts (.methodLink RX10 28 Lib.Math.min.name) (List.mem_cons_of_mem _ (List.mem_append_left _ (List.mem_of_getElem? (i := 1) rfl)))) (hts (.static Lib.Math.min.name) (List.mem_cons_of_mem _ (List.mem_append_left _ (List.mem_of_getElem? (i := 2) rfl)))) (hts (.initialized "java/lang/Math") (List.mem_cons_of_mem _ (List.mem_append_left _ (List.mem_of_getElem? (i := 3) rfl)))) (hts (.code Lib.Math.min.name Lib.Math.min.code 2 (some .int)) (List.mem_cons_of_mem _ (List.mem_append_left _ (List.mem_of_getElem? (i := 4) rfl)))) (Nat.le_of_ble_eq_true rfl) (Nat.le_of_ble_eq_true rfl) (Nat.le_of_ble_eq_true rfl) (Nat.le_of_ble_eq_true rfl) dX10_cut_7 ?_
  refine lv_topi (fun t1 et1 => ?_)
  obtain ⟨gat1, gbt1, gct1⟩ := pv_min (a := v0.toInt) (b := v4.toInt) et1 rfl rfl
  refine va_mmax hx hb (by rw [hml]; exact hl.1.symm) hown (hts (.methodLink RX10 34 Lib.Math.max.name) (List.mem_cons_of_mem _ (List.mem_append_left _ (List.mem_of_getElem? (i := 5) rfl)))) (hts (.static Lib.Math.max.name) (List.mem_cons_of_mem _ (List.mem_append_left _ (List.mem_of_getElem? (i := 6) rfl)))) (hts (.initialized "java/lang/Math") (List.mem_cons_of_mem _ (List.mem_append_left _ (List.mem_of_getElem? (i := 3) rfl)))) (hts (.code Lib.Math.max.name Lib.Math.max.code 2 (some .int)) (List.mem_cons_of_mem _ (List.mem_append_left _ (List.mem_of_getElem? (i := 7) rfl)))) (Nat.le_of_ble_eq_true rfl) (Nat.le_of_ble_eq_true rfl) (Nat.le_of_ble_eq_true rfl) (Nat.le_of_ble_eq_true rfl) dX10_cut_10 ?_
  refine lv_topi (fun t2 et2 => ?_)
  obtain ⟨gat2, gbt2, gct2⟩ := pv_max (a := 0) (b := t1.toInt) et2 (by decide) rfl
  refine va_put (D := (dC, dI)) (ci := 10) (v := .int t2) (ty := .int) (C := RX10) (T := TX10) (N := 5) hx hb hts (fun _ h => List.mem_cons_of_mem _ (List.mem_append_right _ h)) tyX10 tyX10_ok nmX10 hown hK hP hD hS 0 rfl rfl 1 (by decide) (hts (.fieldLink RX10 15 "LeftArguments$Tape" "used" "I") (List.mem_cons_of_mem _ (List.mem_append_left _ (List.mem_of_getElem? (i := 0) rfl)))) (fun _ h9 => h9) rfl (by decide +kernel) rfl rfl (Nat.le_of_ble_eq_true rfl) dX10_cut_13 (fun H locs hP hD hS => ?_)
  have hP : va_P (dC, dI) vwCl (wd_09b0abee h0 r0 t2 v1 v2 v3) H := hP
  have hD : va_D A (wd_09b0abee h0 r0 t2 v1 v2 v3) := hD
  subst hQ
  have hP9 := hP.sub (ws' := (wd_09b0abee h0 r0 t2 v1 v2 v3)) [0] rfl
  have hD9 := hD.sub (ws' := (wd_09b0abee h0 r0 t2 v1 v2 v3)) [0] (by decide) rfl
  have hK9 := hK.sub (tys' := []) [] rfl
  exact W.vret hx hb hr (fun t ht hW => ⟨⟨(), rfl, trivial, ⟨t2, by first | omega | decide, by first | omega | decide, by intro h8 h9; omega, by rw [ht]; exact hP9, va_K.moved hW.alike hK9, hD9⟩⟩, hS.F ht⟩) hS.2.2 dX10_cut_16
def q_X1_told : List Cond := .code yX1_told cX1_told 4 (some .int) :: (([.code yX1_lengthOn cX1_lengthOn 1 (some .int), .methodLink RX1 25 Lib.Math.min.name, .static Lib.Math.min.name, .initialized "java/lang/Math", .code Lib.Math.min.name Lib.Math.min.code 2 (some .int), .initialized RX1, .static yX1_lengthOn, .methodLink RX1 28 yX1_lengthOn, .fieldLink RX1 11 "LeftArguments$Chronicle" "rows" "[I", .code yX1_rowOf cX1_rowOf 1 (some .int), .code yJ9_floorMod_7cf53 cJ9_floorMod_7cf53 3 (some .int), .initialized RJ9, .static yJ9_floorMod_7cf53, .methodLink RX1 19 yJ9_floorMod_7cf53, .static yX1_rowOf, .methodLink RX1 15 yX1_rowOf] : List Cond) ++ wsX10)
set_option maxRecDepth 20000 in
theorem g_X1_told_0 : GoodIn q_X1_told (va_wsS RX1 28 yX1_lengthOn q_X1_lengthOn) := goodIn_app (goodIn_r _ [8, 7, 6] rfl (by decide +kernel)) (goodIn_r (.code yX1_lengthOn cX1_lengthOn 1 (some .int) :: [.methodLink RX1 25 Lib.Math.min.name, .static Lib.Math.min.name, .initialized "java/lang/Math", .code Lib.Math.min.name Lib.Math.min.code 2 (some .int)]) [1, 2, 3, 4, 5] rfl (by decide +kernel))
set_option maxRecDepth 20000 in
theorem g_X1_told_1 : GoodIn q_X1_told (va_wsS RX1 15 yX1_rowOf q_X1_rowOf) := goodIn_app (goodIn_r _ [16, 15, 6] rfl (by decide +kernel)) (goodIn_r (.code yX1_rowOf cX1_rowOf 1 (some .int) :: [.code yJ9_floorMod_7cf53 cJ9_floorMod_7cf53 3 (some .int), .initialized RJ9, .static yJ9_floorMod_7cf53, .methodLink RX1 19 yJ9_floorMod_7cf53]) [10, 11, 12, 13, 14] rfl (by decide +kernel))
set_option maxHeartbeats 4000000 in
set_option maxRecDepth 100000 in
theorem k_X1_told (l : Launch) (dC : Nat → ClassId) (dI : Nat → Nat → Nat) (h0 : Nat) (h1 : Nat) (g0 : ClassId) (f0 : Nat → Int32) (v1 : Int32) (v2 : Int32) (v3 : Int32) (sz : Nat) : Met l yX1_told q_X1_told ({ frames := 2, cells := 0, slots := 0, locals := 42 }) (va_Pc [.ref h0, .int v1, .int v2, .int v3] (fun U => U.heap.size = sz ∧ va_P (dC, dI) vwCl (wd_75d96bdd h0 h1 h1 g0 f0) U.heap ∧ va_K (dC, dI) vwCl [(g0, .int)] U ∧ va_D (fun _ => True) (wd_75d96bdd h0 h1 h1 g0 f0))) (va_Qi (fun (r : Int32) (_ : Unit) => True) (fun (_ : Unit) (t : State) => va_P (dC, dI) vwCl (wd_75d96bdd h0 h1 h1 g0 f0) t.heap ∧ va_K (dC, dI) vwCl [] t ∧ va_D (va_A (wd_75d96bdd h0 h1 h1 g0 f0) sz) (wd_75d96bdd h0 h1 h1 g0 f0)) (va_A (wd_75d96bdd h0 h1 h1 g0 f0) sz)) 0 0 (va_A (wd_75d96bdd h0 h1 h1 g0 f0) sz) := by
  refine Met.ofW (cc := cX1_told) (maxL := 4) (ret := (some .int)) (by decide) rfl ?_
  intro p e s m args below meth c s₁ B hml hv
  obtain ⟨rfl, hsz, hP, hK, hD0⟩ := hv
  have hx := B.exec
  have hb := B.bytes
  have hr := B.returns
  have hts := atoms_spec (ws := q_X1_told) B.pre
  have hown : s.vm.findClass RX1 = some m.cls := findClass_of_methodNamed B.named
  have hlocks := B.notSynchronized
  subst hsz
  have hD := hD0.self (sz := s.heap.size)
  generalize hAe : va_A (wd_75d96bdd h0 h1 h1 g0 f0) s.heap.size = A at hD ⊢
  have hA : ∀ q : Nat, s.heap.size ≤ q → A q := fun q h => by rw [← hAe]; exact Or.inr h
  have hS : va_S A s.heap s.heap [] := va_S.rf
  generalize hQ : (MQ below _ _ s 0 0 A) = Q
  have hl := lv_entry ([.ref h0, .int v1, .int v2, .int v3]) (n := 4) (Nat.le_of_ble_eq_true rfl)
  rw [lg_entry_eq]
  generalize (lg_sl ([.ref h0, .int v1, .int v2, .int v3]) ++ List.replicate (4 - (lg_sl ([.ref h0, .int v1, .int v2, .int v3])).length) Slot.unset).toArray = ls at hl ⊢
  have hl : lv_has ls 4 [(0, .ref h0), (1, .int v1), (2, .int v2), (3, .int v3)] := hl
  obtain ⟨H, hH⟩ : ∃ H : Heap, H = s.heap := ⟨_, rfl⟩
  obtain ⟨locs, hlocs⟩ : ∃ y : List Loc, y = [] := ⟨_, rfl⟩
  have hS : va_S A s.heap H locs := by rw [hH, hlocs]; exact va_S.rf
  have hP : va_P (dC, dI) vwCl (wd_75d96bdd h0 h1 h1 g0 f0) H := by rw [hH]; exact hP
  rw [← hH, ← hlocs]
  refine lv_iload_n hx hb dX1_told_0 rfl (lv_at hl 2 rfl) ?_
  refine lv_if_lt (tgt := 21) hx hb dX1_told_1 (by decide) (fun c1 => ?_) (fun c1 => ?_)
  · skip
    have fc1 : v2.toInt < 0 := Int32.lt_iff_toInt_lt.mp c1
    refine lv_iconst (v := (-1)) hx hb dX1_told_21 (by decide) ?_
    subst hQ
    have hP9 := hP.sub (ws' := (wd_75d96bdd h0 h1 h1 g0 f0)) [0, 1] rfl
    have hD9 := hD.sub (ws' := (wd_75d96bdd h0 h1 h1 g0 f0)) [0, 1] (by decide) rfl
    have hK9 := hK.sub (tys' := []) [] rfl
    exact W.iret (v := (-1)) hx hb hr (fun t ht hW => ⟨⟨(-1), (), rfl, trivial, by rw [ht]; exact hP9, va_K.moved hW.alike hK9, hD9⟩, hS.F ht⟩) hS.2.2 dX1_told_22
  · skip
    have fc1 : ¬ (v2.toInt < 0) := fun h9 => c1 (Int32.lt_iff_toInt_lt.mpr h9)
    refine lv_iload_n hx hb dX1_told_4 rfl (lv_at hl 2 rfl) ?_
    refine lv_iload_n hx hb dX1_told_5 rfl (lv_at hl 1 rfl) ?_
    have hPc := hP.sub (ws' := []) [] rfl
    have hDc := hD.sub (ws' := []) [] (by decide) rfl
    have hKc := hK.sub (tys' := []) [] rfl
    have hFc := va_free (wc := []) hD hS hA [] rfl
    refine va_calli (va_runS (As := [.int v1]) (rest := [.int v2]) ⟨hx, hb, hml, hown, hts⟩ (k_X1_lengthOn l dC dI v1  H.size) (va_cwS 1 hts g_X1_told_0 rfl rfl rfl (by decide +kernel) ⟨Nat.le_of_ble_eq_true rfl, Nat.le_of_ble_eq_true rfl⟩) (pv_PS hPc hKc hDc) rfl rfl hl.1 rfl (lv_room (Nat.le_of_ble_eq_true rfl)) dX1_told_6 ⟨Nat.le_of_ble_eq_true rfl, Nat.le_of_ble_eq_true rfl⟩) hS (fun q _ h => hFc q h) hFc (fun ra2 u t H1 locs ht hvm hwra2 hB hz1 hk1 hS => ?_)
    obtain ⟨hP1, hK1, hD1⟩ := hB
    rw [ht] at hP1
    obtain ⟨hP2, hD2⟩ := va_join (wr := (wd_75d96bdd h0 h1 h1 g0 f0)) (w1 := []) hP hD [] [0, 1] rfl rfl (by decide) (by decide) hk1 hFc hP1 hD1
    clear hP hD hPc hDc hKc hFc hP1 hK1 hD1 hk1 hz1
    generalize H1 = H at hP2 hS ⊢
    have hP : va_P (dC, dI) vwCl (wd_75d96bdd h0 h1 h1 g0 f0) H := hP2
    have hD : va_D A (wd_75d96bdd h0 h1 h1 g0 f0) := hD2
    clear hP2 hD2
    have wa_ra2 : ra2.toInt ≤ 60 := hwra2
    refine lv_icmp_ge (tgt := 21) hx hb dX1_told_9 (by decide) (fun c3 => ?_) (fun c3 => ?_)
    · skip
      have fc3 : ra2.toInt ≤ v2.toInt := Int32.le_iff_toInt_le.mp c3
      have r1c3 := Int32.toInt_lt v2
      have r2c3 := Int32.toInt_lt ra2
      have r3c3 := Int32.le_toInt v2
      have r4c3 := Int32.le_toInt ra2
      refine lv_iconst (v := (-1)) hx hb dX1_told_21 (by decide) ?_
      subst hQ
      have hP9 := hP.sub (ws' := (wd_75d96bdd h0 h1 h1 g0 f0)) [0, 1] rfl
      have hD9 := hD.sub (ws' := (wd_75d96bdd h0 h1 h1 g0 f0)) [0, 1] (by decide) rfl
      have hK9 := hK.sub (tys' := []) [] rfl
      exact W.iret (v := (-1)) hx hb hr (fun t ht hW => ⟨⟨(-1), (), rfl, trivial, by rw [ht]; exact hP9, va_K.moved hW.alike hK9, hD9⟩, hS.F ht⟩) hS.2.2 dX1_told_22
    · skip
      have fc3 : ¬ (ra2.toInt ≤ v2.toInt) := fun h9 => c3 (Int32.le_iff_toInt_le.mpr h9)
      have r1c3 := Int32.toInt_lt v2
      have r2c3 := Int32.toInt_lt ra2
      have r3c3 := Int32.le_toInt v2
      have r4c3 := Int32.le_toInt ra2
      refine lv_iload_n hx hb dX1_told_12 rfl (lv_at hl 3 rfl) ?_
      refine lv_if_lt (tgt := 21) hx hb dX1_told_13 (by decide) (fun c4 => ?_) (fun c4 => ?_)
      · skip
        have fc4 : v3.toInt < 0 := Int32.lt_iff_toInt_lt.mp c4
        refine lv_iconst (v := (-1)) hx hb dX1_told_21 (by decide) ?_
        subst hQ
        have hP9 := hP.sub (ws' := (wd_75d96bdd h0 h1 h1 g0 f0)) [0, 1] rfl
        have hD9 := hD.sub (ws' := (wd_75d96bdd h0 h1 h1 g0 f0)) [0, 1] (by decide) rfl
        have hK9 := hK.sub (tys' := []) [] rfl
        exact W.iret (v := (-1)) hx hb hr (fun t ht hW => ⟨⟨(-1), (), rfl, trivial, by rw [ht]; exact hP9, va_K.moved hW.alike hK9, hD9⟩, hS.F ht⟩) hS.2.2 dX1_told_22
      · skip
        have fc4 : ¬ (v3.toInt < 0) := fun h9 => c4 (Int32.lt_iff_toInt_lt.mpr h9)
        refine lv_iload_n hx hb dX1_told_16 rfl (lv_at hl 3 rfl) ?_
        refine lv_iconst (v := 3) hx hb dX1_told_17 (by decide) ?_
        refine lv_icmp_lt (tgt := 23) hx hb dX1_told_18 (by decide) (fun c5 => ?_) (fun c5 => ?_)
        · skip
          have fc5 : v3.toInt < 3 := Int32.lt_iff_toInt_lt.mp c5
          refine lv_aload_n hx hb dX1_told_23 rfl (lv_at hl 0 rfl) ?_
          refine va_get (D := (dC, dI)) (ci := 1) (v := .ref h1) (C := RX1) (T := TX1) (N := 1) hx hb hts (fun _ h => List.mem_cons_of_mem _ (List.mem_append_right _ h)) hown hK hP 0 rfl rfl 0 (by decide) (hts (.fieldLink RX1 11 "LeftArguments$Chronicle" "rows" "[I") (List.mem_cons_of_mem _ (List.mem_append_left _ (List.mem_of_getElem? (i := 8) rfl)))) (fun _ h9 => h9) rfl dX1_told_24 ?_
          refine lv_iload_n hx hb dX1_told_27 rfl (lv_at hl 1 rfl) ?_
          refine lv_iconst (v := 1) hx hb dX1_told_28 (by decide) ?_
          refine lv_isub hx hb dX1_told_29 ?_
          refine lv_topi (fun t6 et6 => ?_)
          refine lv_iload_n hx hb dX1_told_30 rfl (lv_at hl 2 rfl) ?_
          refine lv_isub hx hb dX1_told_31 ?_
          refine lv_topi (fun t7 et7 => ?_)
          have hPc := hP.sub (ws' := []) [] rfl
          have hDc := hD.sub (ws' := []) [] (by decide) rfl
          have hKc := hK.sub (tys' := []) [] rfl
          have hFc := va_free (wc := []) hD hS hA [] rfl
          refine va_calli (va_runS (As := [.int t7]) (rest := [.ref h1]) ⟨hx, hb, hml, hown, hts⟩ (k_X1_rowOf l dC dI t7  H.size) (va_cwS 1 hts g_X1_told_1 rfl rfl rfl (by decide +kernel) ⟨Nat.le_of_ble_eq_true rfl, Nat.le_of_ble_eq_true rfl⟩) (pv_PS hPc hKc hDc) rfl rfl hl.1 rfl (lv_room (Nat.le_of_ble_eq_true rfl)) dX1_told_32 ⟨Nat.le_of_ble_eq_true rfl, Nat.le_of_ble_eq_true rfl⟩) hS (fun q _ h => hFc q h) hFc (fun ra8 u t H1 locs ht hvm hwra8 hB hz1 hk1 hS => ?_)
          obtain ⟨hP1, hK1, hD1⟩ := hB
          rw [ht] at hP1
          obtain ⟨hP2, hD2⟩ := va_join (wr := (wd_75d96bdd h0 h1 h1 g0 f0)) (w1 := []) hP hD [] [0, 1] rfl rfl (by decide) (by decide) hk1 hFc hP1 hD1
          clear hP hD hPc hDc hKc hFc hP1 hK1 hD1 hk1 hz1
          generalize H1 = H at hP2 hS ⊢
          have hP : va_P (dC, dI) vwCl (wd_75d96bdd h0 h1 h1 g0 f0) H := hP2
          have hD : va_D A (wd_75d96bdd h0 h1 h1 g0 f0) := hD2
          clear hP2 hD2
          obtain ⟨wa_ra8, wb_ra8⟩ := hwra8
          have wa_ra8 : 0 ≤ ra8.toInt := wa_ra8
          have wb_ra8 : ra8.toInt ≤ 297 := wb_ra8
          refine lv_iload_n hx hb dX1_told_35 rfl (lv_at hl 3 rfl) ?_
          refine lv_iadd hx hb dX1_told_36 ?_
          refine lv_topi (fun t9 et9 => ?_)
          have gt9 : t9.toInt = ra8.toInt + v3.toInt := pv_add (a := ra8.toInt) (b := v3.toInt) et9 rfl rfl (by omega) (by omega)
          refine va_iald hx hb hK hP 1 0 rfl rfl (vp_in_iff.mpr ⟨by omega, by omega⟩) dX1_told_37 ?_
          refine lv_topi (fun t10 et10 => ?_)
          subst hQ
          have hP9 := hP.sub (ws' := (wd_75d96bdd h0 h1 h1 g0 f0)) [0, 1] rfl
          have hD9 := hD.sub (ws' := (wd_75d96bdd h0 h1 h1 g0 f0)) [0, 1] (by decide) rfl
          have hK9 := hK.sub (tys' := []) [] rfl
          exact W.iret (v := t10) hx hb hr (fun t ht hW => ⟨⟨t10, (), rfl, trivial, by rw [ht]; exact hP9, va_K.moved hW.alike hK9, hD9⟩, hS.F ht⟩) hS.2.2 dX1_told_38
        · skip
          have fc5 : ¬ (v3.toInt < 3) := fun h9 => c5 (Int32.lt_iff_toInt_lt.mpr h9)
          refine lv_iconst (v := (-1)) hx hb dX1_told_21 (by decide) ?_
          subst hQ
          have hP9 := hP.sub (ws' := (wd_75d96bdd h0 h1 h1 g0 f0)) [0, 1] rfl
          have hD9 := hD.sub (ws' := (wd_75d96bdd h0 h1 h1 g0 f0)) [0, 1] (by decide) rfl
          have hK9 := hK.sub (tys' := []) [] rfl
          exact W.iret (v := (-1)) hx hb hr (fun t ht hW => ⟨⟨(-1), (), rfl, trivial, by rw [ht]; exact hP9, va_K.moved hW.alike hK9, hD9⟩, hS.F ht⟩) hS.2.2 dX1_told_22
def q_X11_log : List Cond := .code yX11_log cX11_log 3 (some .int) :: (([.fieldLink RX11 56 "LeftArguments" "chronicle" "LLeftArguments$Chronicle;", .fieldLink RX11 49 "LeftArguments" "room" "LLeftArguments$Room;", .code yX7_day cX7_day 1 (some .int), .fieldLink RX7 11 "LeftArguments$Room" "cells" "[I", .initialized RX7, .instanceMethod yX7_day, .selects RX7 yX7_day yX7_day, .methodLink RX11 200 yX7_day, .code yX1_told cX1_told 4 (some .int), .code yX1_lengthOn cX1_lengthOn 1 (some .int), .methodLink RX1 25 Lib.Math.min.name, .static Lib.Math.min.name, .initialized "java/lang/Math", .code Lib.Math.min.name Lib.Math.min.code 2 (some .int), .initialized RX1, .static yX1_lengthOn, .methodLink RX1 28 yX1_lengthOn, .fieldLink RX1 11 "LeftArguments$Chronicle" "rows" "[I", .code yX1_rowOf cX1_rowOf 1 (some .int), .code yJ9_floorMod_7cf53 cJ9_floorMod_7cf53 3 (some .int), .initialized RJ9, .static yJ9_floorMod_7cf53, .methodLink RX1 19 yJ9_floorMod_7cf53, .static yX1_rowOf, .methodLink RX1 15 yX1_rowOf, .instanceMethod yX1_told, .selects RX1 yX1_told yX1_told, .methodLink RX11 209 yX1_told] : List Cond) ++ wsX110 ++ wsX70 ++ wsX10)
set_option maxRecDepth 20000 in
theorem g_X11_log_0 : GoodIn q_X11_log (wsV RX11 200 RX7 yX7_day q_X7_day) := goodIn_app (goodIn_r _ [8, 6, 7, 5] rfl (by decide +kernel)) (goodIn_ca (goodIn_r (.code yX7_day cX7_day 1 (some .int) :: [.fieldLink RX7 11 "LeftArguments$Room" "cells" "[I"]) [3, 4] rfl (by decide +kernel)) (goodIn_sub (fun _ h => List.mem_cons_of_mem _ (List.mem_append_left _ (List.mem_append_right _ h))) gwX7))
set_option maxRecDepth 20000 in
theorem g_X11_log_1 : GoodIn q_X11_log (wsV RX11 209 RX1 yX1_told q_X1_told) := goodIn_app (goodIn_r _ [28, 26, 27, 15] rfl (by decide +kernel)) (goodIn_ca (goodIn_r (.code yX1_told cX1_told 4 (some .int) :: [.code yX1_lengthOn cX1_lengthOn 1 (some .int), .methodLink RX1 25 Lib.Math.min.name, .static Lib.Math.min.name, .initialized "java/lang/Math", .code Lib.Math.min.name Lib.Math.min.code 2 (some .int), .initialized RX1, .static yX1_lengthOn, .methodLink RX1 28 yX1_lengthOn, .fieldLink RX1 11 "LeftArguments$Chronicle" "rows" "[I", .code yX1_rowOf cX1_rowOf 1 (some .int), .code yJ9_floorMod_7cf53 cJ9_floorMod_7cf53 3 (some .int), .initialized RJ9, .static yJ9_floorMod_7cf53, .methodLink RX1 19 yJ9_floorMod_7cf53, .static yX1_rowOf, .methodLink RX1 15 yX1_rowOf]) [9, 10, 11, 12, 13, 14, 15, 16, 17, 18, 19, 20, 21, 22, 23, 24, 25] rfl (by decide +kernel)) (goodIn_sub (fun _ h => List.mem_cons_of_mem _ (List.mem_append_right _ h)) gwX1))
set_option maxHeartbeats 4000000 in
set_option maxRecDepth 100000 in
theorem k_X11_log (l : Launch) (dC : Nat → ClassId) (dI : Nat → Nat → Nat) (h0 : Nat) (h1 : Nat) (h2 : Nat) (h3 : Nat) (h4 : Nat) (r0 : Nat) (r1 : Nat) (r2 : Nat) (r3 : Nat) (r4 : Nat) (r5 : Nat) (r6 : Nat) (r7 : Nat) (r8 : Nat) (r9 : Nat) (r10 : Nat) (r11 : Nat) (v0 : Int32) (v1 : Int32) (w2 : Int64) (r12 : Nat) (v3 : Int32) (v4 : Int32) (g0 : ClassId) (f5 : Nat → Int32) (g1 : ClassId) (f6 : Nat → Int32) (v7 : Int32) (v8 : Int32) (i_v0 : 0 ≤ v0.toInt ∧ v0.toInt ≤ 1) (sz : Nat) : Met l yX11_log q_X11_log ({ frames := 3, cells := 0, slots := 0, locals := 65 }) (va_Pc [.ref h0, .int v7, .int v8] (fun U => U.heap.size = sz ∧ va_P (dC, dI) vwCl (wd_8d6ecae7 h0 r0 r1 r2 r3 r4 h1 h3 r5 r6 r7 r8 r9 r10 r11 v0 v1 w2 h1 h2 r12 v3 v4 h2 g0 f5 h3 h4 h4 g1 f6) U.heap ∧ va_K (dC, dI) vwCl [(g0, .int), (g1, .int)] U ∧ va_D (fun _ => True) (wd_8d6ecae7 h0 r0 r1 r2 r3 r4 h1 h3 r5 r6 r7 r8 r9 r10 r11 v0 v1 w2 h1 h2 r12 v3 v4 h2 g0 f5 h3 h4 h4 g1 f6))) (va_Qi (fun (r : Int32) (_ : Unit) => True) (fun (_ : Unit) (t : State) => va_P (dC, dI) vwCl (wd_8d6ecae7 h0 r0 r1 r2 r3 r4 h1 h3 r5 r6 r7 r8 r9 r10 r11 v0 v1 w2 h1 h2 r12 v3 v4 h2 g0 f5 h3 h4 h4 g1 f6) t.heap ∧ va_K (dC, dI) vwCl [] t ∧ va_D (va_A (wd_8d6ecae7 h0 r0 r1 r2 r3 r4 h1 h3 r5 r6 r7 r8 r9 r10 r11 v0 v1 w2 h1 h2 r12 v3 v4 h2 g0 f5 h3 h4 h4 g1 f6) sz) (wd_8d6ecae7 h0 r0 r1 r2 r3 r4 h1 h3 r5 r6 r7 r8 r9 r10 r11 v0 v1 w2 h1 h2 r12 v3 v4 h2 g0 f5 h3 h4 h4 g1 f6)) (va_A (wd_8d6ecae7 h0 r0 r1 r2 r3 r4 h1 h3 r5 r6 r7 r8 r9 r10 r11 v0 v1 w2 h1 h2 r12 v3 v4 h2 g0 f5 h3 h4 h4 g1 f6) sz)) 0 0 (va_A (wd_8d6ecae7 h0 r0 r1 r2 r3 r4 h1 h3 r5 r6 r7 r8 r9 r10 r11 v0 v1 w2 h1 h2 r12 v3 v4 h2 g0 f5 h3 h4 h4 g1 f6) sz) := by
  refine Met.ofW (cc := cX11_log) (maxL := 3) (ret := (some .int)) (by decide) rfl ?_
  intro p e s m args below meth c s₁ B hml hv
  obtain ⟨i_v0a, i_v0b⟩ := i_v0
  obtain ⟨rfl, hsz, hP, hK, hD0⟩ := hv
  have hx := B.exec
  have hb := B.bytes
  have hr := B.returns
  have hts := atoms_spec (ws := q_X11_log) B.pre
  have hown : s.vm.findClass RX11 = some m.cls := findClass_of_methodNamed B.named
  have hlocks := B.notSynchronized
  subst hsz
  have hD := hD0.self (sz := s.heap.size)
  generalize hAe : va_A (wd_8d6ecae7 h0 r0 r1 r2 r3 r4 h1 h3 r5 r6 r7 r8 r9 r10 r11 v0 v1 w2 h1 h2 r12 v3 v4 h2 g0 f5 h3 h4 h4 g1 f6) s.heap.size = A at hD ⊢
  have hA : ∀ q : Nat, s.heap.size ≤ q → A q := fun q h => by rw [← hAe]; exact Or.inr h
  have hS : va_S A s.heap s.heap [] := va_S.rf
  generalize hQ : (MQ below _ _ s 0 0 A) = Q
  have hl := lv_entry ([.ref h0, .int v7, .int v8]) (n := 3) (Nat.le_of_ble_eq_true rfl)
  rw [lg_entry_eq]
  generalize (lg_sl ([.ref h0, .int v7, .int v8]) ++ List.replicate (3 - (lg_sl ([.ref h0, .int v7, .int v8])).length) Slot.unset).toArray = ls at hl ⊢
  have hl : lv_has ls 3 [(0, .ref h0), (1, .int v7), (2, .int v8)] := hl
  obtain ⟨H, hH⟩ : ∃ H : Heap, H = s.heap := ⟨_, rfl⟩
  obtain ⟨locs, hlocs⟩ : ∃ y : List Loc, y = [] := ⟨_, rfl⟩
  have hS : va_S A s.heap H locs := by rw [hH, hlocs]; exact va_S.rf
  have hP : va_P (dC, dI) vwCl (wd_8d6ecae7 h0 r0 r1 r2 r3 r4 h1 h3 r5 r6 r7 r8 r9 r10 r11 v0 v1 w2 h1 h2 r12 v3 v4 h2 g0 f5 h3 h4 h4 g1 f6) H := by rw [hH]; exact hP
  rw [← hH, ← hlocs]
  refine lv_aload_n hx hb dX11_log_0 rfl (lv_at hl 0 rfl) ?_
  refine va_get (D := (dC, dI)) (ci := 11) (v := .ref h3) (C := RX11) (T := TX11) (N := 17) hx hb hts (fun _ h => List.mem_cons_of_mem _ (List.mem_append_left _ (List.mem_append_left _ (List.mem_append_right _ h)))) hown hK hP 0 rfl rfl 6 (by decide) (hts (.fieldLink RX11 56 "LeftArguments" "chronicle" "LLeftArguments$Chronicle;") (List.mem_cons_of_mem _ (List.mem_append_left _ (List.mem_append_left _ (List.mem_append_left _ (List.mem_of_getElem? (i := 0) rfl)))))) (fun _ h9 => h9) rfl dX11_log_1 ?_
  refine lv_aload_n hx hb dX11_log_4 rfl (lv_at hl 0 rfl) ?_
  refine va_get (D := (dC, dI)) (ci := 11) (v := .ref h1) (C := RX11) (T := TX11) (N := 17) hx hb hts (fun _ h => List.mem_cons_of_mem _ (List.mem_append_left _ (List.mem_append_left _ (List.mem_append_right _ h)))) hown hK hP 0 rfl rfl 5 (by decide) (hts (.fieldLink RX11 49 "LeftArguments" "room" "LLeftArguments$Room;") (List.mem_cons_of_mem _ (List.mem_append_left _ (List.mem_append_left _ (List.mem_append_left _ (List.mem_of_getElem? (i := 1) rfl)))))) (fun _ h9 => h9) rfl dX11_log_5 ?_
  have hPc := hP.sub (ws' := (wd_ec98a0b6 h1 h2 r12 v3 v4 h2 g0 f5)) [1, 2] rfl
  have hDc := hD.sub (ws' := (wd_ec98a0b6 h1 h2 r12 v3 v4 h2 g0 f5)) [1, 2] (by decide) rfl
  have hKc := hK.sub (tys' := [(g0, .int)]) [0] rfl
  have hFc := va_free (wc := (wd_ec98a0b6 h1 h2 r12 v3 v4 h2 g0 f5)) hD hS hA [1, 2] rfl
  refine va_calli (va_runV (As := []) (rest := [.ref h3]) ⟨hx, hb, hml, hown, hts⟩ (k_X7_day l dC dI h1 h2 r12 v3 v4 g0 f5  H.size) (cwV 0 hts g_X11_log_0 rfl rfl rfl (by decide +kernel) ⟨Nat.le_of_ble_eq_true rfl, Nat.le_of_ble_eq_true rfl⟩) (pv_PV7 hPc hKc hDc (q0 := 0) rfl) rfl rfl hl.1 rfl (lv_room (Nat.le_of_ble_eq_true rfl)) dX11_log_8 ⟨Nat.le_of_ble_eq_true rfl, Nat.le_of_ble_eq_true rfl⟩) hS (fun q _ h => hFc q h) hFc (fun ra1 u t H1 locs ht hvm hwra1 hB hz1 hk1 hS => ?_)
  obtain ⟨hP1, hK1, hD1⟩ := hB
  rw [ht] at hP1
  obtain ⟨hP2, hD2⟩ := va_join (wr := (wd_a8c56b3a h0 r0 r1 r2 r3 r4 h1 h3 r5 r6 r7 r8 r9 r10 r11 v0 v1 w2 h3 h4 h4 g1 f6)) (w1 := (wd_ec98a0b6 h1 h2 r12 v3 v4 h2 g0 f5)) hP hD [1, 2] [0, 3, 4] rfl rfl (by decide) (by decide) hk1 hFc hP1 hD1
  clear hP hD hPc hDc hKc hFc hP1 hK1 hD1 hk1 hz1
  generalize H1 = H at hP2 hS ⊢
  have hP := hP2.sub (ws' := (wd_8d6ecae7 h0 r0 r1 r2 r3 r4 h1 h3 r5 r6 r7 r8 r9 r10 r11 v0 v1 w2 h1 h2 r12 v3 v4 h2 g0 f5 h3 h4 h4 g1 f6)) [0, 3, 4, 1, 2] rfl
  have hD := hD2.sub (ws' := (wd_8d6ecae7 h0 r0 r1 r2 r3 r4 h1 h3 r5 r6 r7 r8 r9 r10 r11 v0 v1 w2 h1 h2 r12 v3 v4 h2 g0 f5 h3 h4 h4 g1 f6)) [0, 3, 4, 1, 2] (by decide) rfl
  clear hP2 hD2
  refine lv_iload_n hx hb dX11_log_11 rfl (lv_at hl 1 rfl) ?_
  refine lv_iload_n hx hb dX11_log_12 rfl (lv_at hl 2 rfl) ?_
  have hPc := hP.sub (ws' := (wd_75d96bdd h3 h4 h4 g1 f6)) [3, 4] rfl
  have hDc := hD.sub (ws' := (wd_75d96bdd h3 h4 h4 g1 f6)) [3, 4] (by decide) rfl
  have hKc := hK.sub (tys' := [(g1, .int)]) [1] rfl
  have hFc := va_free (wc := (wd_75d96bdd h3 h4 h4 g1 f6)) hD hS hA [3, 4] rfl
  refine va_calli (va_runV (As := [.int ra1, .int v7, .int v8]) (rest := []) ⟨hx, hb, hml, hown, hts⟩ (k_X1_told l dC dI h3 h4 g1 f6 ra1 v7 v8  H.size) (cwV 3 hts g_X11_log_1 rfl rfl rfl (by decide +kernel) ⟨Nat.le_of_ble_eq_true rfl, Nat.le_of_ble_eq_true rfl⟩) (pv_PV1 hPc hKc hDc (q0 := 0) rfl) rfl rfl hl.1 rfl (lv_room (Nat.le_of_ble_eq_true rfl)) dX11_log_13 ⟨Nat.le_of_ble_eq_true rfl, Nat.le_of_ble_eq_true rfl⟩) hS (fun q _ h => hFc q h) hFc (fun ra2 u t H1 locs ht hvm hwra2 hB hz1 hk1 hS => ?_)
  obtain ⟨hP1, hK1, hD1⟩ := hB
  rw [ht] at hP1
  obtain ⟨hP2, hD2⟩ := va_join (wr := (wd_c0340af7 h0 r0 r1 r2 r3 r4 h1 h3 r5 r6 r7 r8 r9 r10 r11 v0 v1 w2 h1 h2 r12 v3 v4 h2 g0 f5)) (w1 := (wd_75d96bdd h3 h4 h4 g1 f6)) hP hD [3, 4] [0, 1, 2] rfl rfl (by decide) (by decide) hk1 hFc hP1 hD1
  clear hP hD hPc hDc hKc hFc hP1 hK1 hD1 hk1 hz1
  generalize H1 = H at hP2 hS ⊢
  have hP : va_P (dC, dI) vwCl (wd_8d6ecae7 h0 r0 r1 r2 r3 r4 h1 h3 r5 r6 r7 r8 r9 r10 r11 v0 v1 w2 h1 h2 r12 v3 v4 h2 g0 f5 h3 h4 h4 g1 f6) H := hP2
  have hD : va_D A (wd_8d6ecae7 h0 r0 r1 r2 r3 r4 h1 h3 r5 r6 r7 r8 r9 r10 r11 v0 v1 w2 h1 h2 r12 v3 v4 h2 g0 f5 h3 h4 h4 g1 f6) := hD2
  clear hP2 hD2
  subst hQ
  have hP9 := hP.sub (ws' := (wd_8d6ecae7 h0 r0 r1 r2 r3 r4 h1 h3 r5 r6 r7 r8 r9 r10 r11 v0 v1 w2 h1 h2 r12 v3 v4 h2 g0 f5 h3 h4 h4 g1 f6)) [0, 1, 2, 3, 4] rfl
  have hD9 := hD.sub (ws' := (wd_8d6ecae7 h0 r0 r1 r2 r3 r4 h1 h3 r5 r6 r7 r8 r9 r10 r11 v0 v1 w2 h1 h2 r12 v3 v4 h2 g0 f5 h3 h4 h4 g1 f6)) [0, 1, 2, 3, 4] (by decide) rfl
  have hK9 := hK.sub (tys' := []) [] rfl
  exact W.iret (v := ra2) hx hb hr (fun t ht hW => ⟨⟨ra2, (), rfl, trivial, by rw [ht]; exact hP9, va_K.moved hW.alike hK9, hD9⟩, hS.F ht⟩) hS.2.2 dX11_log_16
def q_X7_become : List Cond := .code yX7_become cX7_become 2 none :: (([.fieldLink RX7 11 "LeftArguments$Room" "cells" "[I", .methodLink RX7 52 arraycopyName, .native arraycopyName, .static arraycopyName, .initialized "java/lang/System"] : List Cond) ++ wsX70)
set_option maxHeartbeats 4000000 in
set_option maxRecDepth 100000 in
theorem k_X7_become (l : Launch) (dC : Nat → ClassId) (dI : Nat → Nat → Nat) (h0 : Nat) (h1 : Nat) (h2 : Nat) (h3 : Nat) (r0 : Nat) (v0 : Int32) (v1 : Int32) (g0 : ClassId) (f2 : Nat → Int32) (r1 : Nat) (v3 : Int32) (v4 : Int32) (g1 : ClassId) (f5 : Nat → Int32) (sz : Nat) : Met l yX7_become q_X7_become ({ frames := 1, cells := 0, slots := 0, locals := 60 }) (va_Pc [.ref h0, .ref h2] (fun U => U.heap.size = sz ∧ va_P (dC, dI) vwCl (wd_4fcde533 h0 h1 r0 v0 v1 h1 g0 f2 h2 h3 r1 v3 v4 h3 g1 f5) U.heap ∧ va_K (dC, dI) vwCl [(g0, .int), (g1, .int)] U ∧ va_D (fun _ => True) (wd_4fcde533 h0 h1 r0 v0 v1 h1 g0 f2 h2 h3 r1 v3 v4 h3 g1 f5))) (va_Qv (fun (_ : Unit) => True) (fun (_ : Unit) (t : State) => ∃ (o_h1 : Nat → Int32), va_P (dC, dI) vwCl (wd_4fcde533 h0 h1 r0 v0 v1 h1 g0 o_h1 h2 h3 r1 v3 v4 h3 g1 f5) t.heap ∧ va_K (dC, dI) vwCl [] t ∧ va_D (va_A (wd_4fcde533 h0 h1 r0 v0 v1 h1 g0 f2 h2 h3 r1 v3 v4 h3 g1 f5) sz) (wd_4fcde533 h0 h1 r0 v0 v1 h1 g0 o_h1 h2 h3 r1 v3 v4 h3 g1 f5)) (va_A (wd_4fcde533 h0 h1 r0 v0 v1 h1 g0 f2 h2 h3 r1 v3 v4 h3 g1 f5) sz)) 0 0 (va_A (wd_4fcde533 h0 h1 r0 v0 v1 h1 g0 f2 h2 h3 r1 v3 v4 h3 g1 f5) sz) := by
  refine Met.ofW (cc := cX7_become) (maxL := 2) (ret := none) (by decide) rfl ?_
  intro p e s m args below meth c s₁ B hml hv
  obtain ⟨rfl, hsz, hP, hK, hD0⟩ := hv
  have hx := B.exec
  have hb := B.bytes
  have hr := B.returns
  have hts := atoms_spec (ws := q_X7_become) B.pre
  have hown : s.vm.findClass RX7 = some m.cls := findClass_of_methodNamed B.named
  have hlocks := B.notSynchronized
  subst hsz
  have hD := hD0.self (sz := s.heap.size)
  generalize hAe : va_A (wd_4fcde533 h0 h1 r0 v0 v1 h1 g0 f2 h2 h3 r1 v3 v4 h3 g1 f5) s.heap.size = A at hD ⊢
  have hA : ∀ q : Nat, s.heap.size ≤ q → A q := fun q h => by rw [← hAe]; exact Or.inr h
  have hS : va_S A s.heap s.heap [] := va_S.rf
  generalize hQ : (MQ below _ _ s 0 0 A) = Q
  have hl := lv_entry ([.ref h0, .ref h2]) (n := 2) (Nat.le_of_ble_eq_true rfl)
  rw [lg_entry_eq]
  generalize (lg_sl ([.ref h0, .ref h2]) ++ List.replicate (2 - (lg_sl ([.ref h0, .ref h2])).length) Slot.unset).toArray = ls at hl ⊢
  have hl : lv_has ls 2 [(0, .ref h0), (1, .ref h2)] := hl
  obtain ⟨H, hH⟩ : ∃ H : Heap, H = s.heap := ⟨_, rfl⟩
  obtain ⟨locs, hlocs⟩ : ∃ y : List Loc, y = [] := ⟨_, rfl⟩
  have hS : va_S A s.heap H locs := by rw [hH, hlocs]; exact va_S.rf
  have hP : va_P (dC, dI) vwCl (wd_4fcde533 h0 h1 r0 v0 v1 h1 g0 f2 h2 h3 r1 v3 v4 h3 g1 f5) H := by rw [hH]; exact hP
  rw [← hH, ← hlocs]
  refine lv_aload_n hx hb dX7_become_0 rfl (lv_at hl 1 rfl) ?_
  refine va_get (D := (dC, dI)) (ci := 7) (v := .ref h3) (C := RX7) (T := TX7) (N := 4) hx hb hts (fun _ h => List.mem_cons_of_mem _ (List.mem_append_right _ h)) hown hK hP 2 rfl rfl 0 (by decide) (hts (.fieldLink RX7 11 "LeftArguments$Room" "cells" "[I") (List.mem_cons_of_mem _ (List.mem_append_left _ (List.mem_of_getElem? (i := 0) rfl)))) (fun _ h9 => h9) rfl dX7_become_1 ?_
  refine lv_iconst (v := 0) hx hb dX7_become_4 (by decide) ?_
  refine lv_aload_n hx hb dX7_become_5 rfl (lv_at hl 0 rfl) ?_
  refine va_get (D := (dC, dI)) (ci := 7) (v := .ref h1) (C := RX7) (T := TX7) (N := 4) hx hb hts (fun _ h => List.mem_cons_of_mem _ (List.mem_append_right _ h)) hown hK hP 0 rfl rfl 0 (by decide) (hts (.fieldLink RX7 11 "LeftArguments$Room" "cells" "[I") (List.mem_cons_of_mem _ (List.mem_append_left _ (List.mem_of_getElem? (i := 0) rfl)))) (fun _ h9 => h9) rfl dX7_become_6 ?_
  refine lv_iconst (v := 0) hx hb dX7_become_9 (by decide) ?_
  refine lv_bipush (v := 58) hx hb dX7_become_10 (by decide) ?_
  refine va_copyi (ty := .int) hx hb (by rw [hml]; exact hl.1.symm) hown (hts (.methodLink RX7 52 arraycopyName) (List.mem_cons_of_mem _ (List.mem_append_left _ (List.mem_of_getElem? (i := 1) rfl)))) (hts (.native arraycopyName) (List.mem_cons_of_mem _ (List.mem_append_left _ (List.mem_of_getElem? (i := 2) rfl)))) (hts (.static arraycopyName) (List.mem_cons_of_mem _ (List.mem_append_left _ (List.mem_of_getElem? (i := 3) rfl)))) (hts (.initialized "java/lang/System") (List.mem_cons_of_mem _ (List.mem_append_left _ (List.mem_of_getElem? (i := 4) rfl)))) hK hP hD hS 3 1 1 0 rfl rfl rfl rfl rfl (by decide) (by decide) (by decide) (by decide) (by decide) (fun _ _ => rfl) (Nat.le_of_ble_eq_true rfl) (Nat.le_of_ble_eq_true rfl) dX7_become_12 (fun H locs hP hD hS => ?_)
  obtain ⟨fn1, efn1⟩ : ∃ g : Nat → Int32, g = va_cpy f5 f2 (Int32.toNatClampNeg 0) (Int32.toNatClampNeg 0) (Int32.toNatClampNeg 58) := ⟨_, rfl⟩
  rw [← efn1] at hP hD
  have hP : va_P (dC, dI) vwCl (wd_4fcde533 h0 h1 r0 v0 v1 h1 g0 fn1 h2 h3 r1 v3 v4 h3 g1 f5) H := hP
  have hD : va_D A (wd_4fcde533 h0 h1 r0 v0 v1 h1 g0 fn1 h2 h3 r1 v3 v4 h3 g1 f5) := hD
  subst hQ
  have hP9 := hP.sub (ws' := (wd_4fcde533 h0 h1 r0 v0 v1 h1 g0 fn1 h2 h3 r1 v3 v4 h3 g1 f5)) [0, 1, 2, 3] rfl
  have hD9 := hD.sub (ws' := (wd_4fcde533 h0 h1 r0 v0 v1 h1 g0 fn1 h2 h3 r1 v3 v4 h3 g1 f5)) [0, 1, 2, 3] (by decide) rfl
  have hK9 := hK.sub (tys' := []) [] rfl
  exact W.vret hx hb hr (fun t ht hW => ⟨⟨(), rfl, trivial, fn1, by rw [ht]; exact hP9, va_K.moved hW.alike hK9, hD9⟩, hS.F ht⟩) hS.2.2 dX7_become_15
def q_X10_isDigit : List Cond := .code yX10_isDigit cX10_isDigit 1 (some .boolean) :: (([] : List Cond))
set_option maxHeartbeats 4000000 in
set_option maxRecDepth 100000 in
theorem k_X10_isDigit (l : Launch) (dC : Nat → ClassId) (dI : Nat → Nat → Nat) (v0 : Int32) (sz : Nat) : Met l yX10_isDigit q_X10_isDigit ({ frames := 0, cells := 0, slots := 0, locals := 0 }) (va_Pc [.int v0] (fun U => U.heap.size = sz ∧ va_P (dC, dI) vwCl [] U.heap ∧ va_K (dC, dI) vwCl [] U ∧ va_D (fun _ => True) [])) (va_Qi (fun (r : Int32) (r9 : Int32) => r9 = r) (fun (r : Int32) (t : State) => ((0 ≤ r.toInt) ∧ (r.toInt ≤ 1) ∧ ((r.toInt = 1 → 48 ≤ v0.toInt)) ∧ ((r.toInt = 1 → v0.toInt ≤ 57)) ∧ (r.toInt = 0 → ¬ (48 ≤ v0.toInt ∧ v0.toInt ≤ 57)) ∧ va_P (dC, dI) vwCl [] t.heap ∧ va_K (dC, dI) vwCl [] t ∧ va_D (va_A [] sz) [])) (va_A [] sz)) 0 0 (va_A [] sz) := by
  refine Met.ofW (cc := cX10_isDigit) (maxL := 1) (ret := (some .boolean)) (by decide) rfl ?_
  intro p e s m args below meth c s₁ B hml hv
  obtain ⟨rfl, hsz, hP, hK, hD0⟩ := hv
  have hx := B.exec
  have hb := B.bytes
  have hr := B.returns
  have hts := atoms_spec (ws := q_X10_isDigit) B.pre
  have hown : s.vm.findClass RX10 = some m.cls := findClass_of_methodNamed B.named
  have hlocks := B.notSynchronized
  subst hsz
  have hD := hD0.self (sz := s.heap.size)
  generalize hAe : va_A [] s.heap.size = A at hD ⊢
  have hA : ∀ q : Nat, s.heap.size ≤ q → A q := fun q h => by rw [← hAe]; exact Or.inr h
  have hS : va_S A s.heap s.heap [] := va_S.rf
  generalize hQ : (MQ below _ _ s 0 0 A) = Q
  have hl := lv_entry ([.int v0]) (n := 1) (Nat.le_of_ble_eq_true rfl)
  rw [lg_entry_eq]
  generalize (lg_sl ([.int v0]) ++ List.replicate (1 - (lg_sl ([.int v0])).length) Slot.unset).toArray = ls at hl ⊢
  have hl : lv_has ls 1 [(0, .int v0)] := hl
  obtain ⟨H, hH⟩ : ∃ H : Heap, H = s.heap := ⟨_, rfl⟩
  obtain ⟨locs, hlocs⟩ : ∃ y : List Loc, y = [] := ⟨_, rfl⟩
  have hS : va_S A s.heap H locs := by rw [hH, hlocs]; exact va_S.rf
  have hP : va_P (dC, dI) vwCl [] H := by rw [hH]; exact hP
  rw [← hH, ← hlocs]
  refine lv_iload_n hx hb dX10_isDigit_0 rfl (lv_at hl 0 rfl) ?_
  refine lv_bipush (v := 48) hx hb dX10_isDigit_1 (by decide) ?_
  refine lv_icmp_lt (tgt := 16) hx hb dX10_isDigit_3 (by decide) (fun c1 => ?_) (fun c1 => ?_)
  · skip
    have fc1 : v0.toInt < 48 := Int32.lt_iff_toInt_lt.mp c1
    refine lv_iconst (v := 0) hx hb dX10_isDigit_16 (by decide) ?_
    subst hQ
    have hP9 := hP.sub (ws' := []) [] rfl
    have hD9 := hD.sub (ws' := []) [] (by decide) rfl
    have hK9 := hK.sub (tys' := []) [] rfl
    exact W.zret (v := 0) hx hb hr rfl (fun t ht hW => ⟨⟨0, 0, rfl, rfl, ⟨by first | omega | decide, by first | omega | decide, fun h9 => absurd h9 (by decide), fun h9 => absurd h9 (by decide), fun _ => by omega, by rw [ht]; exact hP9, va_K.moved hW.alike hK9, hD9⟩⟩, hS.F ht⟩) hS.2.2 dX10_isDigit_17
  · skip
    have fc1 : ¬ (v0.toInt < 48) := fun h9 => c1 (Int32.lt_iff_toInt_lt.mpr h9)
    refine lv_iload_n hx hb dX10_isDigit_6 rfl (lv_at hl 0 rfl) ?_
    refine lv_bipush (v := 57) hx hb dX10_isDigit_7 (by decide) ?_
    refine lv_icmp_gt (tgt := 16) hx hb dX10_isDigit_9 (by decide) (fun c2 => ?_) (fun c2 => ?_)
    · skip
      have fc2 : 57 < v0.toInt := Int32.lt_iff_toInt_lt.mp c2
      refine lv_iconst (v := 0) hx hb dX10_isDigit_16 (by decide) ?_
      subst hQ
      have hP9 := hP.sub (ws' := []) [] rfl
      have hD9 := hD.sub (ws' := []) [] (by decide) rfl
      have hK9 := hK.sub (tys' := []) [] rfl
      exact W.zret (v := 0) hx hb hr rfl (fun t ht hW => ⟨⟨0, 0, rfl, rfl, ⟨by first | omega | decide, by first | omega | decide, fun h9 => absurd h9 (by decide), fun h9 => absurd h9 (by decide), fun _ => by omega, by rw [ht]; exact hP9, va_K.moved hW.alike hK9, hD9⟩⟩, hS.F ht⟩) hS.2.2 dX10_isDigit_17
    · skip
      have fc2 : ¬ (57 < v0.toInt) := fun h9 => c2 (Int32.lt_iff_toInt_lt.mpr h9)
      refine lv_iconst (v := 1) hx hb dX10_isDigit_12 (by decide) ?_
      refine lv_goto (tgt := 17) hx hb dX10_isDigit_13 (by decide) ?_
      subst hQ
      have hP9 := hP.sub (ws' := []) [] rfl
      have hD9 := hD.sub (ws' := []) [] (by decide) rfl
      have hK9 := hK.sub (tys' := []) [] rfl
      exact W.zret (v := 1) hx hb hr rfl (fun t ht hW => ⟨⟨1, 1, rfl, rfl, ⟨by first | omega | decide, by first | omega | decide, fun _ => by omega, fun _ => by omega, fun h9 => absurd h9 (by decide), by rw [ht]; exact hP9, va_K.moved hW.alike hK9, hD9⟩⟩, hS.F ht⟩) hS.2.2 dX10_isDigit_17
def q_X7_setOff : List Cond := .code yX7_setOff cX7_setOff 3 (some .boolean) :: (([.code yX7_of cX7_of 3 (some .int), .fieldLink RX7 11 "LeftArguments$Room" "cells" "[I", .initialized RX7, .instanceMethod yX7_of, .selects RX7 yX7_of yX7_of, .methodLink RX7 74 yX7_of, .methodLink RX7 110 Lib.Math.abs.name, .static Lib.Math.abs.name, .initialized "java/lang/Math", .code Lib.Math.abs.name Lib.Math.abs.code 1 (some .int)] : List Cond) ++ wsX70)
set_option maxRecDepth 20000 in
theorem g_X7_setOff_0 : GoodIn q_X7_setOff (wsV RX7 74 RX7 yX7_of q_X7_of) := goodIn_app (goodIn_r _ [6, 4, 5, 3] rfl (by decide +kernel)) (goodIn_ca (goodIn_r (.code yX7_of cX7_of 3 (some .int) :: [.fieldLink RX7 11 "LeftArguments$Room" "cells" "[I"]) [1, 2] rfl (by decide +kernel)) (goodIn_sub (fun _ h => List.mem_cons_of_mem _ (List.mem_append_right _ h)) gwX7))
set_option maxHeartbeats 4000000 in
set_option maxRecDepth 100000 in
theorem k_X7_setOff (l : Launch) (dC : Nat → ClassId) (dI : Nat → Nat → Nat) (h0 : Nat) (h1 : Nat) (r0 : Nat) (v0 : Int32) (v1 : Int32) (g0 : ClassId) (f2 : Nat → Int32) (v3 : Int32) (v4 : Int32) (sz : Nat) : Met l yX7_setOff q_X7_setOff ({ frames := 1, cells := 0, slots := 0, locals := 22 }) (va_Pc [.ref h0, .int v3, .int v4] (fun U => U.heap.size = sz ∧ va_P (dC, dI) vwCl (wd_ec98a0b6 h0 h1 r0 v0 v1 h1 g0 f2) U.heap ∧ va_K (dC, dI) vwCl [(g0, .int)] U ∧ va_D (fun _ => True) (wd_ec98a0b6 h0 h1 r0 v0 v1 h1 g0 f2))) (va_Qi (fun (r : Int32) (_ : Unit) => 0 ≤ r.toInt ∧ r.toInt ≤ 1) (fun (_ : Unit) (t : State) => va_P (dC, dI) vwCl (wd_ec98a0b6 h0 h1 r0 v0 v1 h1 g0 f2) t.heap ∧ va_K (dC, dI) vwCl [] t ∧ va_D (va_A (wd_ec98a0b6 h0 h1 r0 v0 v1 h1 g0 f2) sz) (wd_ec98a0b6 h0 h1 r0 v0 v1 h1 g0 f2)) (va_A (wd_ec98a0b6 h0 h1 r0 v0 v1 h1 g0 f2) sz)) 0 0 (va_A (wd_ec98a0b6 h0 h1 r0 v0 v1 h1 g0 f2) sz) := by
  refine Met.ofW (cc := cX7_setOff) (maxL := 3) (ret := (some .boolean)) (by decide) rfl ?_
  intro p e s m args below meth c s₁ B hml hv
  obtain ⟨rfl, hsz, hP, hK, hD0⟩ := hv
  have hx := B.exec
  have hb := B.bytes
  have hr := B.returns
  have hts := atoms_spec (ws := q_X7_setOff) B.pre
  have hown : s.vm.findClass RX7 = some m.cls := findClass_of_methodNamed B.named
  have hlocks := B.notSynchronized
  subst hsz
  have hD := hD0.self (sz := s.heap.size)
  generalize hAe : va_A (wd_ec98a0b6 h0 h1 r0 v0 v1 h1 g0 f2) s.heap.size = A at hD ⊢
  have hA : ∀ q : Nat, s.heap.size ≤ q → A q := fun q h => by rw [← hAe]; exact Or.inr h
  have hS : va_S A s.heap s.heap [] := va_S.rf
  generalize hQ : (MQ below _ _ s 0 0 A) = Q
  have hl := lv_entry ([.ref h0, .int v3, .int v4]) (n := 3) (Nat.le_of_ble_eq_true rfl)
  rw [lg_entry_eq]
  generalize (lg_sl ([.ref h0, .int v3, .int v4]) ++ List.replicate (3 - (lg_sl ([.ref h0, .int v3, .int v4])).length) Slot.unset).toArray = ls at hl ⊢
  have hl : lv_has ls 3 [(0, .ref h0), (1, .int v3), (2, .int v4)] := hl
  obtain ⟨H, hH⟩ : ∃ H : Heap, H = s.heap := ⟨_, rfl⟩
  obtain ⟨locs, hlocs⟩ : ∃ y : List Loc, y = [] := ⟨_, rfl⟩
  have hS : va_S A s.heap H locs := by rw [hH, hlocs]; exact va_S.rf
  have hP : va_P (dC, dI) vwCl (wd_ec98a0b6 h0 h1 r0 v0 v1 h1 g0 f2) H := by rw [hH]; exact hP
  rw [← hH, ← hlocs]
  refine lv_aload_n hx hb dX7_setOff_0 rfl (lv_at hl 0 rfl) ?_
  refine lv_iload_n hx hb dX7_setOff_1 rfl (lv_at hl 1 rfl) ?_
  refine lv_iconst (v := 0) hx hb dX7_setOff_2 (by decide) ?_
  have hPc := hP.sub (ws' := (wd_ec98a0b6 h0 h1 r0 v0 v1 h1 g0 f2)) [0, 1] rfl
  have hDc := hD.sub (ws' := (wd_ec98a0b6 h0 h1 r0 v0 v1 h1 g0 f2)) [0, 1] (by decide) rfl
  have hKc := hK.sub (tys' := [(g0, .int)]) [0] rfl
  have hFc := va_free (wc := (wd_ec98a0b6 h0 h1 r0 v0 v1 h1 g0 f2)) hD hS hA [0, 1] rfl
  refine va_calli (va_runV (As := [.int v3, .int 0]) (rest := []) ⟨hx, hb, hml, hown, hts⟩ (k_X7_of l dC dI h0 h1 r0 v0 v1 g0 f2 v3 0  H.size) (cwV 2 hts g_X7_setOff_0 rfl rfl rfl (by decide +kernel) ⟨Nat.le_of_ble_eq_true rfl, Nat.le_of_ble_eq_true rfl⟩) (pv_PV7 hPc hKc hDc (q0 := 0) rfl) rfl rfl hl.1 rfl (lv_room (Nat.le_of_ble_eq_true rfl)) dX7_setOff_3 ⟨Nat.le_of_ble_eq_true rfl, Nat.le_of_ble_eq_true rfl⟩) hS (fun q _ h => hFc q h) hFc (fun ra1 u t H1 locs ht hvm hwra1 hB hz1 hk1 hS => ?_)
  obtain ⟨hP1, hK1, hD1⟩ := hB
  rw [ht] at hP1
  obtain ⟨hP2, hD2⟩ := va_join (wr := []) (w1 := (wd_ec98a0b6 h0 h1 r0 v0 v1 h1 g0 f2)) hP hD [0, 1] [] rfl rfl (by decide) (by decide) hk1 hFc hP1 hD1
  clear hP hD hPc hDc hKc hFc hP1 hK1 hD1 hk1 hz1
  generalize H1 = H at hP2 hS ⊢
  have hP : va_P (dC, dI) vwCl (wd_ec98a0b6 h0 h1 r0 v0 v1 h1 g0 f2) H := hP2
  have hD : va_D A (wd_ec98a0b6 h0 h1 r0 v0 v1 h1 g0 f2) := hD2
  clear hP2 hD2
  refine lv_aload_n hx hb dX7_setOff_6 rfl (lv_at hl 0 rfl) ?_
  refine lv_iload_n hx hb dX7_setOff_7 rfl (lv_at hl 2 rfl) ?_
  refine lv_iconst (v := 0) hx hb dX7_setOff_8 (by decide) ?_
  have hPc := hP.sub (ws' := (wd_ec98a0b6 h0 h1 r0 v0 v1 h1 g0 f2)) [0, 1] rfl
  have hDc := hD.sub (ws' := (wd_ec98a0b6 h0 h1 r0 v0 v1 h1 g0 f2)) [0, 1] (by decide) rfl
  have hKc := hK.sub (tys' := [(g0, .int)]) [0] rfl
  have hFc := va_free (wc := (wd_ec98a0b6 h0 h1 r0 v0 v1 h1 g0 f2)) hD hS hA [0, 1] rfl
  refine va_calli (va_runV (As := [.int v4, .int 0]) (rest := [.int ra1]) ⟨hx, hb, hml, hown, hts⟩ (k_X7_of l dC dI h0 h1 r0 v0 v1 g0 f2 v4 0  H.size) (cwV 2 hts g_X7_setOff_0 rfl rfl rfl (by decide +kernel) ⟨Nat.le_of_ble_eq_true rfl, Nat.le_of_ble_eq_true rfl⟩) (pv_PV7 hPc hKc hDc (q0 := 0) rfl) rfl rfl hl.1 rfl (lv_room (Nat.le_of_ble_eq_true rfl)) dX7_setOff_9 ⟨Nat.le_of_ble_eq_true rfl, Nat.le_of_ble_eq_true rfl⟩) hS (fun q _ h => hFc q h) hFc (fun ra2 u t H1 locs ht hvm hwra2 hB hz1 hk1 hS => ?_)
  obtain ⟨hP1, hK1, hD1⟩ := hB
  rw [ht] at hP1
  obtain ⟨hP2, hD2⟩ := va_join (wr := []) (w1 := (wd_ec98a0b6 h0 h1 r0 v0 v1 h1 g0 f2)) hP hD [0, 1] [] rfl rfl (by decide) (by decide) hk1 hFc hP1 hD1
  clear hP hD hPc hDc hKc hFc hP1 hK1 hD1 hk1 hz1
  generalize H1 = H at hP2 hS ⊢
  have hP : va_P (dC, dI) vwCl (wd_ec98a0b6 h0 h1 r0 v0 v1 h1 g0 f2) H := hP2
  have hD : va_D A (wd_ec98a0b6 h0 h1 r0 v0 v1 h1 g0 f2) := hD2
  clear hP2 hD2
  refine lv_isub hx hb dX7_setOff_12 ?_
  refine lv_topi (fun t3 et3 => ?_)
  refine va_mabs hx hb (by rw [hml]; exact hl.1.symm) hown (hts (.methodLink RX7 110 Lib.Math.abs.name) (List.mem_cons_of_mem _ (List.mem_append_left _ (List.mem_of_getElem? (i := 6) rfl)))) (hts (.static Lib.Math.abs.name) (List.mem_cons_of_mem _ (List.mem_append_left _ (List.mem_of_getElem? (i := 7) rfl)))) (hts (.initialized "java/lang/Math") (List.mem_cons_of_mem _ (List.mem_append_left _ (List.mem_of_getElem? (i := 8) rfl)))) (hts (.code Lib.Math.abs.name Lib.Math.abs.code 1 (some .int)) (List.mem_cons_of_mem _ (List.mem_append_left _ (List.mem_of_getElem? (i := 9) rfl)))) (Nat.le_of_ble_eq_true rfl) (Nat.le_of_ble_eq_true rfl) (Nat.le_of_ble_eq_true rfl) (Nat.le_of_ble_eq_true rfl) dX7_setOff_13 ?_
  refine lv_topi (fun t4 et4 => ?_)
  refine lv_iconst (v := 2) hx hb dX7_setOff_16 (by decide) ?_
  have hJ6 : ∀ (x5 : Int32) (H : Heap) (locs : List Loc) (ls : Array Slot), 0 ≤ x5.toInt → x5.toInt ≤ 1 → va_P (dC, dI) vwCl (wd_ec98a0b6 h0 h1 r0 v0 v1 h1 g0 f2) H → va_D A (wd_ec98a0b6 h0 h1 r0 v0 v1 h1 g0 f2) → va_S A s.heap H locs → lv_has ls 3 [(0, .ref h0), (1, .int v3), (2, .int v4)] → W p l e ({ frames := 1, cells := 0, slots := 0, locals := 22 }) s m ([.ref h0, .int v3, .int v4] : List Value).toArray below meth c H locs 0 0 Q (F0 m 54 ls [.int x5]) := by
    intro x5 H locs ls qa_x5 qb_x5 hP hD hS hl
    subst hQ
    have hP9 := hP.sub (ws' := (wd_ec98a0b6 h0 h1 r0 v0 v1 h1 g0 f2)) [0, 1] rfl
    have hD9 := hD.sub (ws' := (wd_ec98a0b6 h0 h1 r0 v0 v1 h1 g0 f2)) [0, 1] (by decide) rfl
    have hK9 := hK.sub (tys' := []) [] rfl
    exact W.zret (v := x5) hx hb hr (pv_nz (by omega) (by omega)) (fun t ht hW => ⟨⟨x5, (), rfl, ⟨by first | omega | decide, by first | omega | decide⟩, by rw [ht]; exact hP9, va_K.moved hW.alike hK9, hD9⟩, hS.F ht⟩) hS.2.2 dX7_setOff_54
  refine lv_icmp_le (tgt := 49) hx hb dX7_setOff_17 (by decide) (fun c7 => ?_) (fun c7 => ?_)
  · skip
    have fc7 : t4.toInt ≤ 2 := Int32.le_iff_toInt_le.mp c7
    refine lv_iconst (v := 1) hx hb dX7_setOff_49 (by decide) ?_
    refine lv_goto (tgt := 54) hx hb dX7_setOff_50 (by decide) ?_
    exact hJ6 1 H locs ls (by decide) (by decide) hP hD hS (lv_sub hl [0, 1, 2] rfl)
  · skip
    have fc7 : ¬ (t4.toInt ≤ 2) := fun h9 => c7 (Int32.le_iff_toInt_le.mpr h9)
    refine lv_aload_n hx hb dX7_setOff_20 rfl (lv_at hl 0 rfl) ?_
    refine lv_iload_n hx hb dX7_setOff_21 rfl (lv_at hl 1 rfl) ?_
    refine lv_iconst (v := 1) hx hb dX7_setOff_22 (by decide) ?_
    have hPc := hP.sub (ws' := (wd_ec98a0b6 h0 h1 r0 v0 v1 h1 g0 f2)) [0, 1] rfl
    have hDc := hD.sub (ws' := (wd_ec98a0b6 h0 h1 r0 v0 v1 h1 g0 f2)) [0, 1] (by decide) rfl
    have hKc := hK.sub (tys' := [(g0, .int)]) [0] rfl
    have hFc := va_free (wc := (wd_ec98a0b6 h0 h1 r0 v0 v1 h1 g0 f2)) hD hS hA [0, 1] rfl
    refine va_calli (va_runV (As := [.int v3, .int 1]) (rest := []) ⟨hx, hb, hml, hown, hts⟩ (k_X7_of l dC dI h0 h1 r0 v0 v1 g0 f2 v3 1  H.size) (cwV 2 hts g_X7_setOff_0 rfl rfl rfl (by decide +kernel) ⟨Nat.le_of_ble_eq_true rfl, Nat.le_of_ble_eq_true rfl⟩) (pv_PV7 hPc hKc hDc (q0 := 0) rfl) rfl rfl hl.1 rfl (lv_room (Nat.le_of_ble_eq_true rfl)) dX7_setOff_23 ⟨Nat.le_of_ble_eq_true rfl, Nat.le_of_ble_eq_true rfl⟩) hS (fun q _ h => hFc q h) hFc (fun ra8 u t H1 locs ht hvm hwra8 hB hz1 hk1 hS => ?_)
    obtain ⟨hP1, hK1, hD1⟩ := hB
    rw [ht] at hP1
    obtain ⟨hP2, hD2⟩ := va_join (wr := []) (w1 := (wd_ec98a0b6 h0 h1 r0 v0 v1 h1 g0 f2)) hP hD [0, 1] [] rfl rfl (by decide) (by decide) hk1 hFc hP1 hD1
    clear hP hD hPc hDc hKc hFc hP1 hK1 hD1 hk1 hz1
    generalize H1 = H at hP2 hS ⊢
    have hP : va_P (dC, dI) vwCl (wd_ec98a0b6 h0 h1 r0 v0 v1 h1 g0 f2) H := hP2
    have hD : va_D A (wd_ec98a0b6 h0 h1 r0 v0 v1 h1 g0 f2) := hD2
    clear hP2 hD2
    refine lv_aload_n hx hb dX7_setOff_26 rfl (lv_at hl 0 rfl) ?_
    refine lv_iload_n hx hb dX7_setOff_27 rfl (lv_at hl 1 rfl) ?_
    refine lv_iconst (v := 2) hx hb dX7_setOff_28 (by decide) ?_
    have hPc := hP.sub (ws' := (wd_ec98a0b6 h0 h1 r0 v0 v1 h1 g0 f2)) [0, 1] rfl
    have hDc := hD.sub (ws' := (wd_ec98a0b6 h0 h1 r0 v0 v1 h1 g0 f2)) [0, 1] (by decide) rfl
    have hKc := hK.sub (tys' := [(g0, .int)]) [0] rfl
    have hFc := va_free (wc := (wd_ec98a0b6 h0 h1 r0 v0 v1 h1 g0 f2)) hD hS hA [0, 1] rfl
    refine va_calli (va_runV (As := [.int v3, .int 2]) (rest := [.int ra8]) ⟨hx, hb, hml, hown, hts⟩ (k_X7_of l dC dI h0 h1 r0 v0 v1 g0 f2 v3 2  H.size) (cwV 2 hts g_X7_setOff_0 rfl rfl rfl (by decide +kernel) ⟨Nat.le_of_ble_eq_true rfl, Nat.le_of_ble_eq_true rfl⟩) (pv_PV7 hPc hKc hDc (q0 := 0) rfl) rfl rfl hl.1 rfl (lv_room (Nat.le_of_ble_eq_true rfl)) dX7_setOff_29 ⟨Nat.le_of_ble_eq_true rfl, Nat.le_of_ble_eq_true rfl⟩) hS (fun q _ h => hFc q h) hFc (fun ra9 u t H1 locs ht hvm hwra9 hB hz1 hk1 hS => ?_)
    obtain ⟨hP1, hK1, hD1⟩ := hB
    rw [ht] at hP1
    obtain ⟨hP2, hD2⟩ := va_join (wr := []) (w1 := (wd_ec98a0b6 h0 h1 r0 v0 v1 h1 g0 f2)) hP hD [0, 1] [] rfl rfl (by decide) (by decide) hk1 hFc hP1 hD1
    clear hP hD hPc hDc hKc hFc hP1 hK1 hD1 hk1 hz1
    generalize H1 = H at hP2 hS ⊢
    have hP : va_P (dC, dI) vwCl (wd_ec98a0b6 h0 h1 r0 v0 v1 h1 g0 f2) H := hP2
    have hD : va_D A (wd_ec98a0b6 h0 h1 r0 v0 v1 h1 g0 f2) := hD2
    clear hP2 hD2
    refine lv_iadd hx hb dX7_setOff_32 ?_
    refine lv_topi (fun t10 et10 => ?_)
    refine lv_aload_n hx hb dX7_setOff_33 rfl (lv_at hl 0 rfl) ?_
    refine lv_iload_n hx hb dX7_setOff_34 rfl (lv_at hl 2 rfl) ?_
    refine lv_iconst (v := 1) hx hb dX7_setOff_35 (by decide) ?_
    have hPc := hP.sub (ws' := (wd_ec98a0b6 h0 h1 r0 v0 v1 h1 g0 f2)) [0, 1] rfl
    have hDc := hD.sub (ws' := (wd_ec98a0b6 h0 h1 r0 v0 v1 h1 g0 f2)) [0, 1] (by decide) rfl
    have hKc := hK.sub (tys' := [(g0, .int)]) [0] rfl
    have hFc := va_free (wc := (wd_ec98a0b6 h0 h1 r0 v0 v1 h1 g0 f2)) hD hS hA [0, 1] rfl
    refine va_calli (va_runV (As := [.int v4, .int 1]) (rest := [.int t10]) ⟨hx, hb, hml, hown, hts⟩ (k_X7_of l dC dI h0 h1 r0 v0 v1 g0 f2 v4 1  H.size) (cwV 2 hts g_X7_setOff_0 rfl rfl rfl (by decide +kernel) ⟨Nat.le_of_ble_eq_true rfl, Nat.le_of_ble_eq_true rfl⟩) (pv_PV7 hPc hKc hDc (q0 := 0) rfl) rfl rfl hl.1 rfl (lv_room (Nat.le_of_ble_eq_true rfl)) dX7_setOff_36 ⟨Nat.le_of_ble_eq_true rfl, Nat.le_of_ble_eq_true rfl⟩) hS (fun q _ h => hFc q h) hFc (fun ra11 u t H1 locs ht hvm hwra11 hB hz1 hk1 hS => ?_)
    obtain ⟨hP1, hK1, hD1⟩ := hB
    rw [ht] at hP1
    obtain ⟨hP2, hD2⟩ := va_join (wr := []) (w1 := (wd_ec98a0b6 h0 h1 r0 v0 v1 h1 g0 f2)) hP hD [0, 1] [] rfl rfl (by decide) (by decide) hk1 hFc hP1 hD1
    clear hP hD hPc hDc hKc hFc hP1 hK1 hD1 hk1 hz1
    generalize H1 = H at hP2 hS ⊢
    have hP : va_P (dC, dI) vwCl (wd_ec98a0b6 h0 h1 r0 v0 v1 h1 g0 f2) H := hP2
    have hD : va_D A (wd_ec98a0b6 h0 h1 r0 v0 v1 h1 g0 f2) := hD2
    clear hP2 hD2
    refine lv_aload_n hx hb dX7_setOff_39 rfl (lv_at hl 0 rfl) ?_
    refine lv_iload_n hx hb dX7_setOff_40 rfl (lv_at hl 2 rfl) ?_
    refine lv_iconst (v := 2) hx hb dX7_setOff_41 (by decide) ?_
    have hPc := hP.sub (ws' := (wd_ec98a0b6 h0 h1 r0 v0 v1 h1 g0 f2)) [0, 1] rfl
    have hDc := hD.sub (ws' := (wd_ec98a0b6 h0 h1 r0 v0 v1 h1 g0 f2)) [0, 1] (by decide) rfl
    have hKc := hK.sub (tys' := [(g0, .int)]) [0] rfl
    have hFc := va_free (wc := (wd_ec98a0b6 h0 h1 r0 v0 v1 h1 g0 f2)) hD hS hA [0, 1] rfl
    refine va_calli (va_runV (As := [.int v4, .int 2]) (rest := [.int ra11, .int t10]) ⟨hx, hb, hml, hown, hts⟩ (k_X7_of l dC dI h0 h1 r0 v0 v1 g0 f2 v4 2  H.size) (cwV 2 hts g_X7_setOff_0 rfl rfl rfl (by decide +kernel) ⟨Nat.le_of_ble_eq_true rfl, Nat.le_of_ble_eq_true rfl⟩) (pv_PV7 hPc hKc hDc (q0 := 0) rfl) rfl rfl hl.1 rfl (lv_room (Nat.le_of_ble_eq_true rfl)) dX7_setOff_42 ⟨Nat.le_of_ble_eq_true rfl, Nat.le_of_ble_eq_true rfl⟩) hS (fun q _ h => hFc q h) hFc (fun ra12 u t H1 locs ht hvm hwra12 hB hz1 hk1 hS => ?_)
    obtain ⟨hP1, hK1, hD1⟩ := hB
    rw [ht] at hP1
    obtain ⟨hP2, hD2⟩ := va_join (wr := []) (w1 := (wd_ec98a0b6 h0 h1 r0 v0 v1 h1 g0 f2)) hP hD [0, 1] [] rfl rfl (by decide) (by decide) hk1 hFc hP1 hD1
    clear hP hD hPc hDc hKc hFc hP1 hK1 hD1 hk1 hz1
    generalize H1 = H at hP2 hS ⊢
    have hP : va_P (dC, dI) vwCl (wd_ec98a0b6 h0 h1 r0 v0 v1 h1 g0 f2) H := hP2
    have hD : va_D A (wd_ec98a0b6 h0 h1 r0 v0 v1 h1 g0 f2) := hD2
    clear hP2 hD2
    refine lv_iadd hx hb dX7_setOff_45 ?_
    refine lv_topi (fun t13 et13 => ?_)
    refine lv_icmp_ne (tgt := 53) hx hb dX7_setOff_46 (by decide) (fun c14 => ?_) (fun c14 => ?_)
    · skip
      have fc14 : ¬ (t10.toInt = t13.toInt) := fun h9 => c14 (Int32.toInt_inj.mp h9)
      have r1c14 := Int32.toInt_lt t10
      have r2c14 := Int32.toInt_lt t13
      have r3c14 := Int32.le_toInt t10
      have r4c14 := Int32.le_toInt t13
      refine lv_iconst (v := 0) hx hb dX7_setOff_53 (by decide) ?_
      exact hJ6 0 H locs ls (by decide) (by decide) hP hD hS (lv_sub hl [0, 1, 2] rfl)
    · skip
      have fc14 : t10.toInt = t13.toInt := congrArg Int32.toInt c14
      have r1c14 := Int32.toInt_lt t10
      have r2c14 := Int32.toInt_lt t13
      have r3c14 := Int32.le_toInt t10
      have r4c14 := Int32.le_toInt t13
      refine lv_iconst (v := 1) hx hb dX7_setOff_49 (by decide) ?_
      refine lv_goto (tgt := 54) hx hb dX7_setOff_50 (by decide) ?_
      exact hJ6 1 H locs ls (by decide) (by decide) hP hD hS (lv_sub hl [0, 1, 2] rfl)
def q_X7_circleOf : List Cond := .code yX7_circleOf cX7_circleOf 4 (some .int) :: (([.code yX7_has cX7_has 2 (some .boolean), .fieldLink RX7 11 "LeftArguments$Room" "cells" "[I", .initialized RX7, .instanceMethod yX7_has, .selects RX7 yX7_has yX7_has, .methodLink RX7 70 yX7_has, .code yX7_setOff cX7_setOff 3 (some .boolean), .code yX7_of cX7_of 3 (some .int), .instanceMethod yX7_of, .selects RX7 yX7_of yX7_of, .methodLink RX7 74 yX7_of, .methodLink RX7 110 Lib.Math.abs.name, .static Lib.Math.abs.name, .initialized "java/lang/Math", .code Lib.Math.abs.name Lib.Math.abs.code 1 (some .int), .instanceMethod yX7_setOff, .selects RX7 yX7_setOff yX7_setOff, .methodLink RX7 113 yX7_setOff] : List Cond) ++ wsX70)
set_option maxRecDepth 20000 in
theorem g_X7_circleOf_0 : GoodIn q_X7_circleOf (wsV RX7 70 RX7 yX7_has q_X7_has) := goodIn_app (goodIn_r _ [6, 4, 5, 3] rfl (by decide +kernel)) (goodIn_ca (goodIn_r (.code yX7_has cX7_has 2 (some .boolean) :: [.fieldLink RX7 11 "LeftArguments$Room" "cells" "[I"]) [1, 2] rfl (by decide +kernel)) (goodIn_sub (fun _ h => List.mem_cons_of_mem _ (List.mem_append_right _ h)) gwX7))
set_option maxRecDepth 20000 in
theorem g_X7_circleOf_1 : GoodIn q_X7_circleOf (wsV RX7 113 RX7 yX7_setOff q_X7_setOff) := goodIn_app (goodIn_r _ [18, 16, 17, 3] rfl (by decide +kernel)) (goodIn_ca (goodIn_r (.code yX7_setOff cX7_setOff 3 (some .boolean) :: [.code yX7_of cX7_of 3 (some .int), .fieldLink RX7 11 "LeftArguments$Room" "cells" "[I", .initialized RX7, .instanceMethod yX7_of, .selects RX7 yX7_of yX7_of, .methodLink RX7 74 yX7_of, .methodLink RX7 110 Lib.Math.abs.name, .static Lib.Math.abs.name, .initialized "java/lang/Math", .code Lib.Math.abs.name Lib.Math.abs.code 1 (some .int)]) [7, 8, 2, 3, 9, 10, 11, 12, 13, 14, 15] rfl (by decide +kernel)) (goodIn_sub (fun _ h => List.mem_cons_of_mem _ (List.mem_append_right _ h)) gwX7))
set_option maxHeartbeats 4000000 in
set_option maxRecDepth 100000 in
theorem k_X7_circleOf (l : Launch) (dC : Nat → ClassId) (dI : Nat → Nat → Nat) (h0 : Nat) (h1 : Nat) (r0 : Nat) (v0 : Int32) (v1 : Int32) (g0 : ClassId) (f2 : Nat → Int32) (v3 : Int32) (sz : Nat) : Met l yX7_circleOf q_X7_circleOf ({ frames := 2, cells := 0, slots := 0, locals := 44 }) (va_Pc [.ref h0, .int v3] (fun U => U.heap.size = sz ∧ va_P (dC, dI) vwCl (wd_ec98a0b6 h0 h1 r0 v0 v1 h1 g0 f2) U.heap ∧ va_K (dC, dI) vwCl [(g0, .int)] U ∧ va_D (fun _ => True) (wd_ec98a0b6 h0 h1 r0 v0 v1 h1 g0 f2))) (va_Qi (fun (r : Int32) (_ : Unit) => True) (fun (_ : Unit) (t : State) => va_P (dC, dI) vwCl (wd_ec98a0b6 h0 h1 r0 v0 v1 h1 g0 f2) t.heap ∧ va_K (dC, dI) vwCl [] t ∧ va_D (va_A (wd_ec98a0b6 h0 h1 r0 v0 v1 h1 g0 f2) sz) (wd_ec98a0b6 h0 h1 r0 v0 v1 h1 g0 f2)) (va_A (wd_ec98a0b6 h0 h1 r0 v0 v1 h1 g0 f2) sz)) 0 0 (va_A (wd_ec98a0b6 h0 h1 r0 v0 v1 h1 g0 f2) sz) := by
  refine Met.ofW (cc := cX7_circleOf) (maxL := 4) (ret := (some .int)) (by decide) rfl ?_
  intro p e s m args below meth c s₁ B hml hv
  obtain ⟨rfl, hsz, hP, hK, hD0⟩ := hv
  have hx := B.exec
  have hb := B.bytes
  have hr := B.returns
  have hts := atoms_spec (ws := q_X7_circleOf) B.pre
  have hown : s.vm.findClass RX7 = some m.cls := findClass_of_methodNamed B.named
  have hlocks := B.notSynchronized
  subst hsz
  have hD := hD0.self (sz := s.heap.size)
  generalize hAe : va_A (wd_ec98a0b6 h0 h1 r0 v0 v1 h1 g0 f2) s.heap.size = A at hD ⊢
  have hA : ∀ q : Nat, s.heap.size ≤ q → A q := fun q h => by rw [← hAe]; exact Or.inr h
  have hS : va_S A s.heap s.heap [] := va_S.rf
  generalize hQ : (MQ below _ _ s 0 0 A) = Q
  have hl := lv_entry ([.ref h0, .int v3]) (n := 4) (Nat.le_of_ble_eq_true rfl)
  rw [lg_entry_eq]
  generalize (lg_sl ([.ref h0, .int v3]) ++ List.replicate (4 - (lg_sl ([.ref h0, .int v3])).length) Slot.unset).toArray = ls at hl ⊢
  have hl : lv_has ls 4 [(0, .ref h0), (1, .int v3)] := hl
  obtain ⟨H, hH⟩ : ∃ H : Heap, H = s.heap := ⟨_, rfl⟩
  obtain ⟨locs, hlocs⟩ : ∃ y : List Loc, y = [] := ⟨_, rfl⟩
  have hS : va_S A s.heap H locs := by rw [hH, hlocs]; exact va_S.rf
  have hP : va_P (dC, dI) vwCl (wd_ec98a0b6 h0 h1 r0 v0 v1 h1 g0 f2) H := by rw [hH]; exact hP
  rw [← hH, ← hlocs]
  refine lv_iconst (v := 0) hx hb dX7_circleOf_0 (by decide) ?_
  refine lv_istore_n (lv' := [(2, .int 0), (0, .ref h0), (1, .int v3)]) hx hb dX7_circleOf_1 rfl hl (by decide) rfl (fun ls hl => ?_)
  refine lv_iconst (v := 0) hx hb dX7_circleOf_2 (by decide) ?_
  refine lv_istore_n (lv' := [(3, .int 0), (2, .int 0), (0, .ref h0), (1, .int v3)]) hx hb dX7_circleOf_3 rfl hl (by decide) rfl (fun ls hl => ?_)
  have hL11 : ∀ (n9 : Nat), ∀ (x7 : Int32) (x8 : Int32) (H : Heap) (locs : List Loc) (ls : Array Slot), 0 ≤ x7.toInt → x7.toInt ≤ 8 → (8 - x7.toInt).toNat < n9 → va_P (dC, dI) vwCl (wd_ec98a0b6 h0 h1 r0 v0 v1 h1 g0 f2) H → va_D A (wd_ec98a0b6 h0 h1 r0 v0 v1 h1 g0 f2) → va_S A s.heap H locs → lv_has ls 4 [(3, .int x7), (2, .int x8), (0, .ref h0), (1, .int v3)] → W p l e ({ frames := 2, cells := 0, slots := 0, locals := 44 }) s m ([.ref h0, .int v3] : List Value).toArray below meth c H locs 0 0 Q (F0 m 4 ls []) := by
    intro n9
    induction n9 with
    | zero => intro x7 x8 H locs ls qa_x7 qb_x7 hm9 hP hD hS hl; exact absurd hm9 (Nat.not_lt_zero _)
    | succ n9 ih_hL11 =>
      intro x7 x8 H locs ls qa_x7 qb_x7 hm9 hP hD hS hl
      refine lv_iload_n hx hb dX7_circleOf_4 rfl (lv_at hl 0 rfl) ?_
      refine lv_bipush (v := 8) hx hb dX7_circleOf_5 (by decide) ?_
      refine lv_icmp_ge (tgt := 39) hx hb dX7_circleOf_7 (by decide) (fun c12 => ?_) (fun c12 => ?_)
      · skip
        have fc12 : 8 ≤ x7.toInt := Int32.le_iff_toInt_le.mp c12
        refine lv_iload_n hx hb dX7_circleOf_39 rfl (lv_at hl 1 rfl) ?_
        subst hQ
        have hP9 := hP.sub (ws' := (wd_ec98a0b6 h0 h1 r0 v0 v1 h1 g0 f2)) [0, 1] rfl
        have hD9 := hD.sub (ws' := (wd_ec98a0b6 h0 h1 r0 v0 v1 h1 g0 f2)) [0, 1] (by decide) rfl
        have hK9 := hK.sub (tys' := []) [] rfl
        exact W.iret (v := x8) hx hb hr (fun t ht hW => ⟨⟨x8, (), rfl, trivial, by rw [ht]; exact hP9, va_K.moved hW.alike hK9, hD9⟩, hS.F ht⟩) hS.2.2 dX7_circleOf_40
      · skip
        have fc12 : ¬ (8 ≤ x7.toInt) := fun h9 => c12 (Int32.le_iff_toInt_le.mpr h9)
        refine lv_aload_n hx hb dX7_circleOf_10 rfl (lv_at hl 2 rfl) ?_
        refine lv_iload_n hx hb dX7_circleOf_11 rfl (lv_at hl 0 rfl) ?_
        have hPc := hP.sub (ws' := (wd_ec98a0b6 h0 h1 r0 v0 v1 h1 g0 f2)) [0, 1] rfl
        have hDc := hD.sub (ws' := (wd_ec98a0b6 h0 h1 r0 v0 v1 h1 g0 f2)) [0, 1] (by decide) rfl
        have hKc := hK.sub (tys' := [(g0, .int)]) [0] rfl
        have hFc := va_free (wc := (wd_ec98a0b6 h0 h1 r0 v0 v1 h1 g0 f2)) hD hS hA [0, 1] rfl
        refine va_calli (va_runV (As := [.int x7]) (rest := []) ⟨hx, hb, hml, hown, hts⟩ (k_X7_has l dC dI h0 h1 r0 v0 v1 g0 f2 x7  H.size) (cwV 1 hts g_X7_circleOf_0 rfl rfl rfl (by decide +kernel) ⟨Nat.le_of_ble_eq_true rfl, Nat.le_of_ble_eq_true rfl⟩) (pv_PV7 hPc hKc hDc (q0 := 0) rfl) rfl rfl hl.1 rfl (lv_room (Nat.le_of_ble_eq_true rfl)) dX7_circleOf_12 ⟨Nat.le_of_ble_eq_true rfl, Nat.le_of_ble_eq_true rfl⟩) hS (fun q _ h => hFc q h) hFc (fun ra13 u t H1 locs ht hvm hwra13 hB hz1 hk1 hS => ?_)
        obtain ⟨hP1, hK1, hD1⟩ := hB
        rw [ht] at hP1
        obtain ⟨hP2, hD2⟩ := va_join (wr := []) (w1 := (wd_ec98a0b6 h0 h1 r0 v0 v1 h1 g0 f2)) hP hD [0, 1] [] rfl rfl (by decide) (by decide) hk1 hFc hP1 hD1
        clear hP hD hPc hDc hKc hFc hP1 hK1 hD1 hk1 hz1
        generalize H1 = H at hP2 hS ⊢
        have hP : va_P (dC, dI) vwCl (wd_ec98a0b6 h0 h1 r0 v0 v1 h1 g0 f2) H := hP2
        have hD : va_D A (wd_ec98a0b6 h0 h1 r0 v0 v1 h1 g0 f2) := hD2
        clear hP2 hD2
        obtain ⟨wa_ra13, wb_ra13⟩ := hwra13
        have wa_ra13 : 0 ≤ ra13.toInt := wa_ra13
        have wb_ra13 : ra13.toInt ≤ 1 := wb_ra13
        have hJ15 : ∀ (x14 : Int32) (H : Heap) (locs : List Loc) (ls : Array Slot), va_P (dC, dI) vwCl (wd_ec98a0b6 h0 h1 r0 v0 v1 h1 g0 f2) H → va_D A (wd_ec98a0b6 h0 h1 r0 v0 v1 h1 g0 f2) → va_S A s.heap H locs → lv_has ls 4 [(3, .int x7), (2, .int x14), (0, .ref h0), (1, .int v3)] → W p l e ({ frames := 2, cells := 0, slots := 0, locals := 44 }) s m ([.ref h0, .int v3] : List Value).toArray below meth c H locs 0 0 Q (F0 m 33 ls []) := by
          intro x14 H locs ls hP hD hS hl
          obtain ⟨t16, et16⟩ : ∃ y : Int32, y = x7 + 1 := ⟨_, rfl⟩
          have gt16 : t16.toInt = x7.toInt + (1) := pv_add (a := x7.toInt) (b := (1)) et16 rfl (by decide) (by omega) (by omega)
          refine lv_iinc (v := t16) (lv' := [(3, .int t16), (2, .int x14), (0, .ref h0), (1, .int v3)]) hx hb dX7_circleOf_33 hl (k := 0) rfl (by rw [et16]; rfl) (by decide) rfl (fun ls hl => ?_)
          refine lv_goto (tgt := 4) hx hb dX7_circleOf_36 (by decide) ?_
          exact ih_hL11 t16 x14 H locs ls (by first | omega | decide) (by first | omega | decide) (by first | omega | (simp only [Int.toNat] at *; omega)) hP hD hS (lv_sub hl [0, 1, 2, 3] rfl)
        refine lv_if_eq (tgt := 33) hx hb dX7_circleOf_15 (by decide) (fun c17 => ?_) (fun c17 => ?_)
        · skip
          have fc17 : ra13.toInt = 0 := congrArg Int32.toInt c17
          exact hJ15 x8 H locs ls hP hD hS (lv_sub hl [0, 1, 2, 3] rfl)
        · skip
          have fc17 : ¬ (ra13.toInt = 0) := fun h9 => c17 (Int32.toInt_inj.mp h9)
          refine lv_aload_n hx hb dX7_circleOf_18 rfl (lv_at hl 2 rfl) ?_
          refine lv_iload_n hx hb dX7_circleOf_19 rfl (lv_at hl 3 rfl) ?_
          refine lv_iload_n hx hb dX7_circleOf_20 rfl (lv_at hl 0 rfl) ?_
          have hPc := hP.sub (ws' := (wd_ec98a0b6 h0 h1 r0 v0 v1 h1 g0 f2)) [0, 1] rfl
          have hDc := hD.sub (ws' := (wd_ec98a0b6 h0 h1 r0 v0 v1 h1 g0 f2)) [0, 1] (by decide) rfl
          have hKc := hK.sub (tys' := [(g0, .int)]) [0] rfl
          have hFc := va_free (wc := (wd_ec98a0b6 h0 h1 r0 v0 v1 h1 g0 f2)) hD hS hA [0, 1] rfl
          refine va_calli (va_runV (As := [.int v3, .int x7]) (rest := []) ⟨hx, hb, hml, hown, hts⟩ (k_X7_setOff l dC dI h0 h1 r0 v0 v1 g0 f2 v3 x7  H.size) (cwV 2 hts g_X7_circleOf_1 rfl rfl rfl (by decide +kernel) ⟨Nat.le_of_ble_eq_true rfl, Nat.le_of_ble_eq_true rfl⟩) (pv_PV7 hPc hKc hDc (q0 := 0) rfl) rfl rfl hl.1 rfl (lv_room (Nat.le_of_ble_eq_true rfl)) dX7_circleOf_21 ⟨Nat.le_of_ble_eq_true rfl, Nat.le_of_ble_eq_true rfl⟩) hS (fun q _ h => hFc q h) hFc (fun ra18 u t H1 locs ht hvm hwra18 hB hz1 hk1 hS => ?_)
          obtain ⟨hP1, hK1, hD1⟩ := hB
          rw [ht] at hP1
          obtain ⟨hP2, hD2⟩ := va_join (wr := []) (w1 := (wd_ec98a0b6 h0 h1 r0 v0 v1 h1 g0 f2)) hP hD [0, 1] [] rfl rfl (by decide) (by decide) hk1 hFc hP1 hD1
          clear hP hD hPc hDc hKc hFc hP1 hK1 hD1 hk1 hz1
          generalize H1 = H at hP2 hS ⊢
          have hP : va_P (dC, dI) vwCl (wd_ec98a0b6 h0 h1 r0 v0 v1 h1 g0 f2) H := hP2
          have hD : va_D A (wd_ec98a0b6 h0 h1 r0 v0 v1 h1 g0 f2) := hD2
          clear hP2 hD2
          obtain ⟨wa_ra18, wb_ra18⟩ := hwra18
          have wa_ra18 : 0 ≤ ra18.toInt := wa_ra18
          have wb_ra18 : ra18.toInt ≤ 1 := wb_ra18
          refine lv_if_eq (tgt := 33) hx hb dX7_circleOf_24 (by decide) (fun c19 => ?_) (fun c19 => ?_)
          · skip
            have fc19 : ra18.toInt = 0 := congrArg Int32.toInt c19
            exact hJ15 x8 H locs ls hP hD hS (lv_sub hl [0, 1, 2, 3] rfl)
          · skip
            have fc19 : ¬ (ra18.toInt = 0) := fun h9 => c19 (Int32.toInt_inj.mp h9)
            refine lv_iload_n hx hb dX7_circleOf_27 rfl (lv_at hl 1 rfl) ?_
            refine lv_iconst (v := 1) hx hb dX7_circleOf_28 (by decide) ?_
            refine lv_iload_n hx hb dX7_circleOf_29 rfl (lv_at hl 0 rfl) ?_
            refine lv_ishl hx hb dX7_circleOf_30 ?_
            refine lv_topi (fun t20 et20 => ?_)
            refine lv_ior hx hb dX7_circleOf_31 ?_
            refine lv_topi (fun t21 et21 => ?_)
            refine lv_istore_n (lv' := [(2, .int t21), (3, .int x7), (0, .ref h0), (1, .int v3)]) hx hb dX7_circleOf_32 rfl hl (by decide) rfl (fun ls hl => ?_)
            exact hJ15 t21 H locs ls hP hD hS (lv_sub hl [1, 0, 2, 3] rfl)
  exact hL11 _ 0 0 H locs ls (by decide) (by decide) (Nat.lt_succ_self _) hP hD hS (lv_sub hl [0, 1, 2, 3] rfl)
def q_X7_isCrowd : List Cond := .code yX7_isCrowd cX7_isCrowd 3 (some .boolean) :: (([.fieldLink RX7 15 "LeftArguments$Room" "perBag" "[I"] : List Cond) ++ wsX70)
set_option maxHeartbeats 4000000 in
set_option maxRecDepth 100000 in
theorem k_X7_isCrowd (l : Launch) (dC : Nat → ClassId) (dI : Nat → Nat → Nat) (h0 : Nat) (h1 : Nat) (r0 : Nat) (v0 : Int32) (v1 : Int32) (g0 : ClassId) (f2 : Nat → Int32) (v3 : Int32) (sz : Nat) : Met l yX7_isCrowd q_X7_isCrowd ({ frames := 0, cells := 0, slots := 0, locals := 0 }) (va_Pc [.ref h0, .int v3] (fun U => U.heap.size = sz ∧ va_P (dC, dI) vwCl (wd_9c9cf24a h0 r0 h1 v0 v1 h1 g0 f2) U.heap ∧ va_K (dC, dI) vwCl [(g0, .int)] U ∧ va_D (fun _ => True) (wd_9c9cf24a h0 r0 h1 v0 v1 h1 g0 f2))) (va_Qi (fun (r : Int32) (_ : Unit) => 0 ≤ r.toInt ∧ r.toInt ≤ 1) (fun (_ : Unit) (t : State) => va_P (dC, dI) vwCl (wd_9c9cf24a h0 r0 h1 v0 v1 h1 g0 f2) t.heap ∧ va_K (dC, dI) vwCl [] t ∧ va_D (va_A (wd_9c9cf24a h0 r0 h1 v0 v1 h1 g0 f2) sz) (wd_9c9cf24a h0 r0 h1 v0 v1 h1 g0 f2)) (va_A (wd_9c9cf24a h0 r0 h1 v0 v1 h1 g0 f2) sz)) 0 0 (va_A (wd_9c9cf24a h0 r0 h1 v0 v1 h1 g0 f2) sz) := by
  refine Met.ofW (cc := cX7_isCrowd) (maxL := 3) (ret := (some .boolean)) (by decide) rfl ?_
  intro p e s m args below meth c s₁ B hml hv
  obtain ⟨rfl, hsz, hP, hK, hD0⟩ := hv
  have hx := B.exec
  have hb := B.bytes
  have hr := B.returns
  have hts := atoms_spec (ws := q_X7_isCrowd) B.pre
  have hown : s.vm.findClass RX7 = some m.cls := findClass_of_methodNamed B.named
  have hlocks := B.notSynchronized
  subst hsz
  have hD := hD0.self (sz := s.heap.size)
  generalize hAe : va_A (wd_9c9cf24a h0 r0 h1 v0 v1 h1 g0 f2) s.heap.size = A at hD ⊢
  have hA : ∀ q : Nat, s.heap.size ≤ q → A q := fun q h => by rw [← hAe]; exact Or.inr h
  have hS : va_S A s.heap s.heap [] := va_S.rf
  generalize hQ : (MQ below _ _ s 0 0 A) = Q
  have hl := lv_entry ([.ref h0, .int v3]) (n := 3) (Nat.le_of_ble_eq_true rfl)
  rw [lg_entry_eq]
  generalize (lg_sl ([.ref h0, .int v3]) ++ List.replicate (3 - (lg_sl ([.ref h0, .int v3])).length) Slot.unset).toArray = ls at hl ⊢
  have hl : lv_has ls 3 [(0, .ref h0), (1, .int v3)] := hl
  obtain ⟨H, hH⟩ : ∃ H : Heap, H = s.heap := ⟨_, rfl⟩
  obtain ⟨locs, hlocs⟩ : ∃ y : List Loc, y = [] := ⟨_, rfl⟩
  have hS : va_S A s.heap H locs := by rw [hH, hlocs]; exact va_S.rf
  have hP : va_P (dC, dI) vwCl (wd_9c9cf24a h0 r0 h1 v0 v1 h1 g0 f2) H := by rw [hH]; exact hP
  rw [← hH, ← hlocs]
  refine lv_iconst (v := 0) hx hb dX7_isCrowd_0 (by decide) ?_
  refine lv_istore_n (lv' := [(2, .int 0), (0, .ref h0), (1, .int v3)]) hx hb dX7_isCrowd_1 rfl hl (by decide) rfl (fun ls hl => ?_)
  have hL6 : ∀ (n9 : Nat), ∀ (x4 : Int32) (H : Heap) (locs : List Loc) (ls : Array Slot), 0 ≤ x4.toInt → x4.toInt ≤ 8 → (8 - x4.toInt).toNat < n9 → va_P (dC, dI) vwCl (wd_9c9cf24a h0 r0 h1 v0 v1 h1 g0 f2) H → va_D A (wd_9c9cf24a h0 r0 h1 v0 v1 h1 g0 f2) → va_S A s.heap H locs → lv_has ls 3 [(2, .int x4), (0, .ref h0), (1, .int v3)] → W p l e ({ frames := 0, cells := 0, slots := 0, locals := 0 }) s m ([.ref h0, .int v3] : List Value).toArray below meth c H locs 0 0 Q (F0 m 2 ls []) := by
    intro n9
    induction n9 with
    | zero => intro x4 H locs ls qa_x4 qb_x4 hm9 hP hD hS hl; exact absurd hm9 (Nat.not_lt_zero _)
    | succ n9 ih_hL6 =>
      intro x4 H locs ls qa_x4 qb_x4 hm9 hP hD hS hl
      refine lv_iload_n hx hb dX7_isCrowd_2 rfl (lv_at hl 0 rfl) ?_
      refine lv_bipush (v := 8) hx hb dX7_isCrowd_3 (by decide) ?_
      refine lv_icmp_ge (tgt := 38) hx hb dX7_isCrowd_5 (by decide) (fun c7 => ?_) (fun c7 => ?_)
      · skip
        have fc7 : 8 ≤ x4.toInt := Int32.le_iff_toInt_le.mp c7
        refine lv_iconst (v := 1) hx hb dX7_isCrowd_38 (by decide) ?_
        subst hQ
        have hP9 := hP.sub (ws' := (wd_9c9cf24a h0 r0 h1 v0 v1 h1 g0 f2)) [0, 1] rfl
        have hD9 := hD.sub (ws' := (wd_9c9cf24a h0 r0 h1 v0 v1 h1 g0 f2)) [0, 1] (by decide) rfl
        have hK9 := hK.sub (tys' := []) [] rfl
        exact W.zret (v := 1) hx hb hr rfl (fun t ht hW => ⟨⟨1, (), rfl, ⟨by first | omega | decide, by first | omega | decide⟩, by rw [ht]; exact hP9, va_K.moved hW.alike hK9, hD9⟩, hS.F ht⟩) hS.2.2 dX7_isCrowd_39
      · skip
        have fc7 : ¬ (8 ≤ x4.toInt) := fun h9 => c7 (Int32.le_iff_toInt_le.mpr h9)
        refine lv_iload_n hx hb dX7_isCrowd_8 rfl (lv_at hl 2 rfl) ?_
        refine lv_iload_n hx hb dX7_isCrowd_9 rfl (lv_at hl 0 rfl) ?_
        refine lv_ishr hx hb dX7_isCrowd_10 ?_
        refine lv_topi (fun t8 et8 => ?_)
        refine lv_iconst (v := 1) hx hb dX7_isCrowd_11 (by decide) ?_
        refine lv_iand hx hb dX7_isCrowd_12 ?_
        refine lv_topi (fun t9 et9 => ?_)
        have gt9 : 0 ≤ t9.toInt ∧ t9.toInt ≤ 1 := pv_andR et9 (by decide) (by decide)
        refine lv_iconst (v := 1) hx hb dX7_isCrowd_13 (by decide) ?_
        refine lv_icmp_ne (tgt := 32) hx hb dX7_isCrowd_14 (by decide) (fun c10 => ?_) (fun c10 => ?_)
        · skip
          have fc10 : ¬ (t9.toInt = 1) := fun h9 => c10 (Int32.toInt_inj.mp h9)
          obtain ⟨t11, et11⟩ : ∃ y : Int32, y = x4 + 1 := ⟨_, rfl⟩
          have gt11 : t11.toInt = x4.toInt + (1) := pv_add (a := x4.toInt) (b := (1)) et11 rfl (by decide) (by omega) (by omega)
          refine lv_iinc (v := t11) (lv' := [(2, .int t11), (0, .ref h0), (1, .int v3)]) hx hb dX7_isCrowd_32 hl (k := 0) rfl (by rw [et11]; rfl) (by decide) rfl (fun ls hl => ?_)
          refine lv_goto (tgt := 2) hx hb dX7_isCrowd_35 (by decide) ?_
          exact ih_hL6 t11 H locs ls (by first | omega | decide) (by first | omega | decide) (by first | omega | (simp only [Int.toNat] at *; omega)) hP hD hS (lv_sub hl [0, 1, 2] rfl)
        · skip
          have fc10 : t9.toInt = 1 := congrArg Int32.toInt c10
          refine lv_iload_n hx hb dX7_isCrowd_17 rfl (lv_at hl 2 rfl) ?_
          refine lv_aload_n hx hb dX7_isCrowd_18 rfl (lv_at hl 1 rfl) ?_
          refine va_get (D := (dC, dI)) (ci := 7) (v := .ref h1) (C := RX7) (T := TX7) (N := 4) hx hb hts (fun _ h => List.mem_cons_of_mem _ (List.mem_append_right _ h)) hown hK hP 0 rfl rfl 1 (by decide) (hts (.fieldLink RX7 15 "LeftArguments$Room" "perBag" "[I") (List.mem_cons_of_mem _ (List.mem_append_left _ (List.mem_of_getElem? (i := 0) rfl)))) (fun _ h9 => h9) rfl dX7_isCrowd_19 ?_
          refine lv_iload_n hx hb dX7_isCrowd_22 rfl (lv_at hl 0 rfl) ?_
          refine va_iald hx hb hK hP 1 0 rfl rfl (vp_in_iff.mpr ⟨by omega, by omega⟩) dX7_isCrowd_23 ?_
          refine lv_topi (fun t12 et12 => ?_)
          refine lv_iconst (v := (-1)) hx hb dX7_isCrowd_24 (by decide) ?_
          refine lv_ixor hx hb dX7_isCrowd_25 ?_
          refine lv_topi (fun t13 et13 => ?_)
          refine lv_iand hx hb dX7_isCrowd_26 ?_
          refine lv_topi (fun t14 et14 => ?_)
          refine lv_if_eq (tgt := 32) hx hb dX7_isCrowd_27 (by decide) (fun c15 => ?_) (fun c15 => ?_)
          · skip
            have fc15 : t14.toInt = 0 := congrArg Int32.toInt c15
            obtain ⟨t16, et16⟩ : ∃ y : Int32, y = x4 + 1 := ⟨_, rfl⟩
            have gt16 : t16.toInt = x4.toInt + (1) := pv_add (a := x4.toInt) (b := (1)) et16 rfl (by decide) (by omega) (by omega)
            refine lv_iinc (v := t16) (lv' := [(2, .int t16), (0, .ref h0), (1, .int v3)]) hx hb dX7_isCrowd_32 hl (k := 0) rfl (by rw [et16]; rfl) (by decide) rfl (fun ls hl => ?_)
            refine lv_goto (tgt := 2) hx hb dX7_isCrowd_35 (by decide) ?_
            exact ih_hL6 t16 H locs ls (by first | omega | decide) (by first | omega | decide) (by first | omega | (simp only [Int.toNat] at *; omega)) hP hD hS (lv_sub hl [0, 1, 2] rfl)
          · skip
            have fc15 : ¬ (t14.toInt = 0) := fun h9 => c15 (Int32.toInt_inj.mp h9)
            refine lv_iconst (v := 0) hx hb dX7_isCrowd_30 (by decide) ?_
            subst hQ
            have hP9 := hP.sub (ws' := (wd_9c9cf24a h0 r0 h1 v0 v1 h1 g0 f2)) [0, 1] rfl
            have hD9 := hD.sub (ws' := (wd_9c9cf24a h0 r0 h1 v0 v1 h1 g0 f2)) [0, 1] (by decide) rfl
            have hK9 := hK.sub (tys' := []) [] rfl
            exact W.zret (v := 0) hx hb hr rfl (fun t ht hW => ⟨⟨0, (), rfl, ⟨by first | omega | decide, by first | omega | decide⟩, by rw [ht]; exact hP9, va_K.moved hW.alike hK9, hD9⟩, hS.F ht⟩) hS.2.2 dX7_isCrowd_31
  exact hL6 _ 0 H locs ls (by decide) (by decide) (Nat.lt_succ_self _) hP hD hS (lv_sub hl [0, 1, 2] rfl)
def q_X7_loudestCrowd : List Cond := .code yX7_loudestCrowd cX7_loudestCrowd 3 (some .int) :: (([.code yJ6_bitCount_0f7a4 cJ6_bitCount_0f7a4 1 (some .int), .constant RJ6 265 (1431655765), .constant RJ6 266 (858993459), .constant RJ6 267 (252645135), .initialized RJ6, .static yJ6_bitCount_0f7a4, .methodLink RX7 120 yJ6_bitCount_0f7a4, .code yX7_isCrowd cX7_isCrowd 3 (some .boolean), .fieldLink RX7 15 "LeftArguments$Room" "perBag" "[I", .initialized RX7, .instanceMethod yX7_isCrowd, .selects RX7 yX7_isCrowd yX7_isCrowd, .methodLink RX7 125 yX7_isCrowd, .code yX7_has cX7_has 2 (some .boolean), .fieldLink RX7 11 "LeftArguments$Room" "cells" "[I", .instanceMethod yX7_has, .selects RX7 yX7_has yX7_has, .methodLink RX7 70 yX7_has, .code yX7_circleOf cX7_circleOf 4 (some .int), .code yX7_setOff cX7_setOff 3 (some .boolean), .code yX7_of cX7_of 3 (some .int), .instanceMethod yX7_of, .selects RX7 yX7_of yX7_of, .methodLink RX7 74 yX7_of, .methodLink RX7 110 Lib.Math.abs.name, .static Lib.Math.abs.name, .initialized "java/lang/Math", .code Lib.Math.abs.name Lib.Math.abs.code 1 (some .int), .instanceMethod yX7_setOff, .selects RX7 yX7_setOff yX7_setOff, .methodLink RX7 113 yX7_setOff, .instanceMethod yX7_circleOf, .selects RX7 yX7_circleOf yX7_circleOf, .methodLink RX7 117 yX7_circleOf] : List Cond) ++ wsX70)
set_option maxRecDepth 20000 in
theorem g_X7_loudestCrowd_0 : GoodIn q_X7_loudestCrowd (va_wsS RX7 120 yJ6_bitCount_0f7a4 q_J6_bitCount_0f7a4) := goodIn_app (goodIn_r _ [7, 6, 5] rfl (by decide +kernel)) (goodIn_r (.code yJ6_bitCount_0f7a4 cJ6_bitCount_0f7a4 1 (some .int) :: [.constant RJ6 265 (1431655765), .constant RJ6 266 (858993459), .constant RJ6 267 (252645135)]) [1, 2, 3, 4] rfl (by decide +kernel))
set_option maxRecDepth 20000 in
theorem g_X7_loudestCrowd_2 : GoodIn q_X7_loudestCrowd (wsV RX7 125 RX7 yX7_isCrowd q_X7_isCrowd) := goodIn_app (goodIn_r _ [13, 11, 12, 10] rfl (by decide +kernel)) (goodIn_ca (goodIn_r (.code yX7_isCrowd cX7_isCrowd 3 (some .boolean) :: [.fieldLink RX7 15 "LeftArguments$Room" "perBag" "[I"]) [8, 9] rfl (by decide +kernel)) (goodIn_sub (fun _ h => List.mem_cons_of_mem _ (List.mem_append_right _ h)) gwX7))
set_option maxRecDepth 20000 in
theorem g_X7_loudestCrowd_3 : GoodIn q_X7_loudestCrowd (wsV RX7 70 RX7 yX7_has q_X7_has) := goodIn_app (goodIn_r _ [18, 16, 17, 10] rfl (by decide +kernel)) (goodIn_ca (goodIn_r (.code yX7_has cX7_has 2 (some .boolean) :: [.fieldLink RX7 11 "LeftArguments$Room" "cells" "[I"]) [14, 15] rfl (by decide +kernel)) (goodIn_sub (fun _ h => List.mem_cons_of_mem _ (List.mem_append_right _ h)) gwX7))
set_option maxRecDepth 20000 in
theorem g_X7_loudestCrowd_4 : GoodIn q_X7_loudestCrowd (wsV RX7 117 RX7 yX7_circleOf q_X7_circleOf) := goodIn_app (goodIn_r _ [34, 32, 33, 10] rfl (by decide +kernel)) (goodIn_ca (goodIn_r (.code yX7_circleOf cX7_circleOf 4 (some .int) :: [.code yX7_has cX7_has 2 (some .boolean), .fieldLink RX7 11 "LeftArguments$Room" "cells" "[I", .initialized RX7, .instanceMethod yX7_has, .selects RX7 yX7_has yX7_has, .methodLink RX7 70 yX7_has, .code yX7_setOff cX7_setOff 3 (some .boolean), .code yX7_of cX7_of 3 (some .int), .instanceMethod yX7_of, .selects RX7 yX7_of yX7_of, .methodLink RX7 74 yX7_of, .methodLink RX7 110 Lib.Math.abs.name, .static Lib.Math.abs.name, .initialized "java/lang/Math", .code Lib.Math.abs.name Lib.Math.abs.code 1 (some .int), .instanceMethod yX7_setOff, .selects RX7 yX7_setOff yX7_setOff, .methodLink RX7 113 yX7_setOff]) [19, 14, 15, 10, 16, 17, 18, 20, 21, 22, 23, 24, 25, 26, 27, 28, 29, 30, 31] rfl (by decide +kernel)) (goodIn_sub (fun _ h => List.mem_cons_of_mem _ (List.mem_append_right _ h)) gwX7))
set_option maxHeartbeats 4000000 in
set_option maxRecDepth 100000 in
theorem k_X7_loudestCrowd (l : Launch) (dC : Nat → ClassId) (dI : Nat → Nat → Nat) (h0 : Nat) (h1 : Nat) (h2 : Nat) (v0 : Int32) (v1 : Int32) (g0 : ClassId) (f2 : Nat → Int32) (g1 : ClassId) (f3 : Nat → Int32) (sz : Nat) : Met l yX7_loudestCrowd q_X7_loudestCrowd ({ frames := 3, cells := 0, slots := 0, locals := 67 }) (va_Pc [.ref h0] (fun U => U.heap.size = sz ∧ va_P (dC, dI) vwCl (wd_64a2b6a9 h0 h1 h2 v0 v1 h1 g0 f2 h2 g1 f3) U.heap ∧ va_K (dC, dI) vwCl [(g0, .int), (g1, .int)] U ∧ va_D (fun _ => True) (wd_64a2b6a9 h0 h1 h2 v0 v1 h1 g0 f2 h2 g1 f3))) (va_Qi (fun (r : Int32) (_ : Unit) => 0 ≤ r.toInt ∧ r.toInt ≤ 255) (fun (_ : Unit) (t : State) => ∃ (o_h2 : Nat → Int32), va_P (dC, dI) vwCl (wd_64a2b6a9 h0 h1 h2 v0 v1 h1 g0 f2 h2 g1 o_h2) t.heap ∧ va_K (dC, dI) vwCl [] t ∧ va_D (va_A (wd_64a2b6a9 h0 h1 h2 v0 v1 h1 g0 f2 h2 g1 f3) sz) (wd_64a2b6a9 h0 h1 h2 v0 v1 h1 g0 f2 h2 g1 o_h2)) (va_A (wd_64a2b6a9 h0 h1 h2 v0 v1 h1 g0 f2 h2 g1 f3) sz)) 0 0 (va_A (wd_64a2b6a9 h0 h1 h2 v0 v1 h1 g0 f2 h2 g1 f3) sz) := by
  refine Met.ofW (cc := cX7_loudestCrowd) (maxL := 3) (ret := (some .int)) (by decide) rfl ?_
  intro p e s m args below meth c s₁ B hml hv
  obtain ⟨rfl, hsz, hP, hK, hD0⟩ := hv
  have hx := B.exec
  have hb := B.bytes
  have hr := B.returns
  have hts := atoms_spec (ws := q_X7_loudestCrowd) B.pre
  have hown : s.vm.findClass RX7 = some m.cls := findClass_of_methodNamed B.named
  have hlocks := B.notSynchronized
  subst hsz
  have hD := hD0.self (sz := s.heap.size)
  generalize hAe : va_A (wd_64a2b6a9 h0 h1 h2 v0 v1 h1 g0 f2 h2 g1 f3) s.heap.size = A at hD ⊢
  have hA : ∀ q : Nat, s.heap.size ≤ q → A q := fun q h => by rw [← hAe]; exact Or.inr h
  have hS : va_S A s.heap s.heap [] := va_S.rf
  generalize hQ : (MQ below _ _ s 0 0 A) = Q
  have hl := lv_entry ([.ref h0]) (n := 3) (Nat.le_of_ble_eq_true rfl)
  rw [lg_entry_eq]
  generalize (lg_sl ([.ref h0]) ++ List.replicate (3 - (lg_sl ([.ref h0])).length) Slot.unset).toArray = ls at hl ⊢
  have hl : lv_has ls 3 [(0, .ref h0)] := hl
  obtain ⟨H, hH⟩ : ∃ H : Heap, H = s.heap := ⟨_, rfl⟩
  obtain ⟨locs, hlocs⟩ : ∃ y : List Loc, y = [] := ⟨_, rfl⟩
  have hS : va_S A s.heap H locs := by rw [hH, hlocs]; exact va_S.rf
  have hP : va_P (dC, dI) vwCl (wd_64a2b6a9 h0 h1 h2 v0 v1 h1 g0 f2 h2 g1 f3) H := by rw [hH]; exact hP
  rw [← hH, ← hlocs]
  refine lv_iconst (v := 0) hx hb dX7_loudestCrowd_0 (by decide) ?_
  refine lv_istore_n (lv' := [(1, .int 0), (0, .ref h0)]) hx hb dX7_loudestCrowd_1 rfl hl (by decide) rfl (fun ls hl => ?_)
  have hL11 : ∀ (n9 : Nat), ∀ (x7 : Int32) (fn8 : Nat → Int32) (H : Heap) (locs : List Loc) (ls : Array Slot), 0 ≤ x7.toInt → x7.toInt ≤ 8 → (8 - x7.toInt).toNat < n9 → va_P (dC, dI) vwCl (wd_64a2b6a9 h0 h1 h2 v0 v1 h1 g0 f2 h2 g1 fn8) H → va_D A (wd_64a2b6a9 h0 h1 h2 v0 v1 h1 g0 f2 h2 g1 fn8) → va_S A s.heap H locs → lv_has ls 3 [(1, .int x7), (0, .ref h0)] → W p l e ({ frames := 3, cells := 0, slots := 0, locals := 67 }) s m ([.ref h0] : List Value).toArray below meth c H locs 0 0 Q (F0 m 2 ls []) := by
    intro n9
    induction n9 with
    | zero => intro x7 fn8 H locs ls qa_x7 qb_x7 hm9 hP hD hS hl; exact absurd hm9 (Nat.not_lt_zero _)
    | succ n9 ih_hL11 =>
      intro x7 fn8 H locs ls qa_x7 qb_x7 hm9 hP hD hS hl
      refine lv_iload_n hx hb dX7_loudestCrowd_2 rfl (lv_at hl 0 rfl) ?_
      refine lv_bipush (v := 8) hx hb dX7_loudestCrowd_3 (by decide) ?_
      refine lv_icmp_ge (tgt := 37) hx hb dX7_loudestCrowd_5 (by decide) (fun c12 => ?_) (fun c12 => ?_)
      · skip
        have fc12 : 8 ≤ x7.toInt := Int32.le_iff_toInt_le.mp c12
        refine lv_iconst (v := 0) hx hb dX7_loudestCrowd_37 (by decide) ?_
        refine lv_istore_n (lv' := [(1, .int 0), (0, .ref h0)]) hx hb dX7_loudestCrowd_38 rfl hl (by decide) rfl (fun ls hl => ?_)
        refine lv_iconst (v := 1) hx hb dX7_loudestCrowd_39 (by decide) ?_
        refine lv_istore_n (lv' := [(2, .int 1), (1, .int 0), (0, .ref h0)]) hx hb dX7_loudestCrowd_40 rfl hl (by decide) rfl (fun ls hl => ?_)
        have hL35 : ∀ (n9 : Nat), ∀ (x31 : Int32) (x32 : Int32) (H : Heap) (locs : List Loc) (ls : Array Slot), 1 ≤ x31.toInt → x31.toInt ≤ 256 → 0 ≤ x32.toInt → x32.toInt ≤ 255 → (256 - x31.toInt).toNat < n9 → va_P (dC, dI) vwCl (wd_64a2b6a9 h0 h1 h2 v0 v1 h1 g0 f2 h2 g1 fn8) H → va_D A (wd_64a2b6a9 h0 h1 h2 v0 v1 h1 g0 f2 h2 g1 fn8) → va_S A s.heap H locs → lv_has ls 3 [(2, .int x31), (1, .int x32), (0, .ref h0)] → W p l e ({ frames := 3, cells := 0, slots := 0, locals := 67 }) s m ([.ref h0] : List Value).toArray below meth c H locs 0 0 Q (F0 m 41 ls []) := by
          intro n9
          induction n9 with
          | zero => intro x31 x32 H locs ls qa_x31 qb_x31 qa_x32 qb_x32 hm9 hP hD hS hl; exact absurd hm9 (Nat.not_lt_zero _)
          | succ n9 ih_hL35 =>
            intro x31 x32 H locs ls qa_x31 qb_x31 qa_x32 qb_x32 hm9 hP hD hS hl
            refine lv_iload_n hx hb dX7_loudestCrowd_41 rfl (lv_at hl 0 rfl) ?_
            refine lv_sipush (v := 256) hx hb dX7_loudestCrowd_42 (by decide) ?_
            refine lv_icmp_ge (tgt := 75) hx hb dX7_loudestCrowd_45 (by decide) (fun c36 => ?_) (fun c36 => ?_)
            · skip
              have fc36 : 256 ≤ x31.toInt := Int32.le_iff_toInt_le.mp c36
              refine lv_iload_n hx hb dX7_loudestCrowd_75 rfl (lv_at hl 1 rfl) ?_
              subst hQ
              have hP9 := hP.sub (ws' := (wd_64a2b6a9 h0 h1 h2 v0 v1 h1 g0 f2 h2 g1 fn8)) [0, 1, 2] rfl
              have hD9 := hD.sub (ws' := (wd_64a2b6a9 h0 h1 h2 v0 v1 h1 g0 f2 h2 g1 fn8)) [0, 1, 2] (by decide) rfl
              have hK9 := hK.sub (tys' := []) [] rfl
              exact W.iret (v := x32) hx hb hr (fun t ht hW => ⟨⟨x32, (), rfl, ⟨by first | omega | decide, by first | omega | decide⟩, fn8, by rw [ht]; exact hP9, va_K.moved hW.alike hK9, hD9⟩, hS.F ht⟩) hS.2.2 dX7_loudestCrowd_76
            · skip
              have fc36 : ¬ (256 ≤ x31.toInt) := fun h9 => c36 (Int32.le_iff_toInt_le.mpr h9)
              refine lv_iload_n hx hb dX7_loudestCrowd_48 rfl (lv_at hl 0 rfl) ?_
              have hPc := hP.sub (ws' := []) [] rfl
              have hDc := hD.sub (ws' := []) [] (by decide) rfl
              have hKc := hK.sub (tys' := []) [] rfl
              have hFc := va_free (wc := []) hD hS hA [] rfl
              refine va_calli (va_runS (As := [.int x31]) (rest := []) ⟨hx, hb, hml, hown, hts⟩ (k_J6_bitCount_0f7a4 l dC dI x31  H.size) (va_cwS 1 hts g_X7_loudestCrowd_0 rfl rfl rfl (by decide +kernel) ⟨Nat.le_of_ble_eq_true rfl, Nat.le_of_ble_eq_true rfl⟩) (pv_PS hPc hKc hDc) rfl rfl hl.1 rfl (lv_room (Nat.le_of_ble_eq_true rfl)) dX7_loudestCrowd_49 ⟨Nat.le_of_ble_eq_true rfl, Nat.le_of_ble_eq_true rfl⟩) hS (fun q _ h => hFc q h) hFc (fun ra37 u t H1 locs ht hvm hwra37 hB hz1 hk1 hS => ?_)
              obtain ⟨hP1, hK1, hD1⟩ := hB
              rw [ht] at hP1
              obtain ⟨hP2, hD2⟩ := va_join (wr := (wd_64a2b6a9 h0 h1 h2 v0 v1 h1 g0 f2 h2 g1 fn8)) (w1 := []) hP hD [] [0, 1, 2] rfl rfl (by decide) (by decide) hk1 hFc hP1 hD1
              clear hP hD hPc hDc hKc hFc hP1 hK1 hD1 hk1 hz1
              generalize H1 = H at hP2 hS ⊢
              have hP : va_P (dC, dI) vwCl (wd_64a2b6a9 h0 h1 h2 v0 v1 h1 g0 f2 h2 g1 fn8) H := hP2
              have hD : va_D A (wd_64a2b6a9 h0 h1 h2 v0 v1 h1 g0 f2 h2 g1 fn8) := hD2
              clear hP2 hD2
              obtain ⟨wa_ra37, wb_ra37⟩ := hwra37
              have wa_ra37 : 0 ≤ ra37.toInt := wa_ra37
              have wb_ra37 : ra37.toInt ≤ 63 := wb_ra37
              refine lv_iload_n hx hb dX7_loudestCrowd_52 rfl (lv_at hl 1 rfl) ?_
              have hPc := hP.sub (ws' := []) [] rfl
              have hDc := hD.sub (ws' := []) [] (by decide) rfl
              have hKc := hK.sub (tys' := []) [] rfl
              have hFc := va_free (wc := []) hD hS hA [] rfl
              refine va_calli (va_runS (As := [.int x32]) (rest := [.int ra37]) ⟨hx, hb, hml, hown, hts⟩ (k_J6_bitCount_0f7a4 l dC dI x32  H.size) (va_cwS 1 hts g_X7_loudestCrowd_0 rfl rfl rfl (by decide +kernel) ⟨Nat.le_of_ble_eq_true rfl, Nat.le_of_ble_eq_true rfl⟩) (pv_PS hPc hKc hDc) rfl rfl hl.1 rfl (lv_room (Nat.le_of_ble_eq_true rfl)) dX7_loudestCrowd_53 ⟨Nat.le_of_ble_eq_true rfl, Nat.le_of_ble_eq_true rfl⟩) hS (fun q _ h => hFc q h) hFc (fun ra38 u t H1 locs ht hvm hwra38 hB hz1 hk1 hS => ?_)
              obtain ⟨hP1, hK1, hD1⟩ := hB
              rw [ht] at hP1
              obtain ⟨hP2, hD2⟩ := va_join (wr := (wd_64a2b6a9 h0 h1 h2 v0 v1 h1 g0 f2 h2 g1 fn8)) (w1 := []) hP hD [] [0, 1, 2] rfl rfl (by decide) (by decide) hk1 hFc hP1 hD1
              clear hP hD hPc hDc hKc hFc hP1 hK1 hD1 hk1 hz1
              generalize H1 = H at hP2 hS ⊢
              have hP : va_P (dC, dI) vwCl (wd_64a2b6a9 h0 h1 h2 v0 v1 h1 g0 f2 h2 g1 fn8) H := hP2
              have hD : va_D A (wd_64a2b6a9 h0 h1 h2 v0 v1 h1 g0 f2 h2 g1 fn8) := hD2
              clear hP2 hD2
              obtain ⟨wa_ra38, wb_ra38⟩ := hwra38
              have wa_ra38 : 0 ≤ ra38.toInt := wa_ra38
              have wb_ra38 : ra38.toInt ≤ 63 := wb_ra38
              have hJ40 : ∀ (x39 : Int32) (H : Heap) (locs : List Loc) (ls : Array Slot), 0 ≤ x39.toInt → x39.toInt ≤ 255 → va_P (dC, dI) vwCl (wd_64a2b6a9 h0 h1 h2 v0 v1 h1 g0 f2 h2 g1 fn8) H → va_D A (wd_64a2b6a9 h0 h1 h2 v0 v1 h1 g0 f2 h2 g1 fn8) → va_S A s.heap H locs → lv_has ls 3 [(2, .int x31), (1, .int x39), (0, .ref h0)] → W p l e ({ frames := 3, cells := 0, slots := 0, locals := 67 }) s m ([.ref h0] : List Value).toArray below meth c H locs 0 0 Q (F0 m 69 ls []) := by
                intro x39 H locs ls qa_x39 qb_x39 hP hD hS hl
                obtain ⟨t41, et41⟩ : ∃ y : Int32, y = x31 + 1 := ⟨_, rfl⟩
                have gt41 : t41.toInt = x31.toInt + (1) := pv_add (a := x31.toInt) (b := (1)) et41 rfl (by decide) (by omega) (by omega)
                refine lv_iinc (v := t41) (lv' := [(2, .int t41), (1, .int x39), (0, .ref h0)]) hx hb dX7_loudestCrowd_69 hl (k := 0) rfl (by rw [et41]; rfl) (by decide) rfl (fun ls hl => ?_)
                refine lv_goto (tgt := 41) hx hb dX7_loudestCrowd_72 (by decide) ?_
                exact ih_hL35 t41 x39 H locs ls (by first | omega | decide) (by first | omega | decide) qa_x39 qb_x39 (by first | omega | (simp only [Int.toNat] at *; omega)) hP hD hS (lv_sub hl [0, 1, 2] rfl)
              refine lv_icmp_le (tgt := 69) hx hb dX7_loudestCrowd_56 (by decide) (fun c42 => ?_) (fun c42 => ?_)
              · skip
                have fc42 : ra37.toInt ≤ ra38.toInt := Int32.le_iff_toInt_le.mp c42
                have r1c42 := Int32.toInt_lt ra37
                have r2c42 := Int32.toInt_lt ra38
                have r3c42 := Int32.le_toInt ra37
                have r4c42 := Int32.le_toInt ra38
                exact hJ40 x32 H locs ls qa_x32 qb_x32 hP hD hS (lv_sub hl [0, 1, 2] rfl)
              · skip
                have fc42 : ¬ (ra37.toInt ≤ ra38.toInt) := fun h9 => c42 (Int32.le_iff_toInt_le.mpr h9)
                have r1c42 := Int32.toInt_lt ra37
                have r2c42 := Int32.toInt_lt ra38
                have r3c42 := Int32.le_toInt ra37
                have r4c42 := Int32.le_toInt ra38
                refine lv_aload_n hx hb dX7_loudestCrowd_59 rfl (lv_at hl 2 rfl) ?_
                refine lv_iload_n hx hb dX7_loudestCrowd_60 rfl (lv_at hl 0 rfl) ?_
                have hPc := hP.sub (ws' := (wd_9c9cf24a h0 h1 h2 v0 v1 h2 g1 fn8)) [0, 2] rfl
                have hDc := hD.sub (ws' := (wd_9c9cf24a h0 h1 h2 v0 v1 h2 g1 fn8)) [0, 2] (by decide) rfl
                have hKc := hK.sub (tys' := [(g1, .int)]) [1] rfl
                have hFc := va_free (wc := (wd_9c9cf24a h0 h1 h2 v0 v1 h2 g1 fn8)) hD hS hA [0, 2] rfl
                refine va_calli (va_runV (As := [.int x31]) (rest := []) ⟨hx, hb, hml, hown, hts⟩ (k_X7_isCrowd l dC dI h0 h2 h1 v0 v1 g1 fn8 x31  H.size) (cwV 1 hts g_X7_loudestCrowd_2 rfl rfl rfl (by decide +kernel) ⟨Nat.le_of_ble_eq_true rfl, Nat.le_of_ble_eq_true rfl⟩) (pv_PV7 hPc hKc hDc (q0 := 0) rfl) rfl rfl hl.1 rfl (lv_room (Nat.le_of_ble_eq_true rfl)) dX7_loudestCrowd_61 ⟨Nat.le_of_ble_eq_true rfl, Nat.le_of_ble_eq_true rfl⟩) hS (fun q _ h => hFc q h) hFc (fun ra43 u t H1 locs ht hvm hwra43 hB hz1 hk1 hS => ?_)
                obtain ⟨hP1, hK1, hD1⟩ := hB
                rw [ht] at hP1
                obtain ⟨hP2, hD2⟩ := va_join (wr := (wd_c7d12799 h1 g0 f2)) (w1 := (wd_9c9cf24a h0 h1 h2 v0 v1 h2 g1 fn8)) hP hD [0, 2] [1] rfl rfl (by decide) (by decide) hk1 hFc hP1 hD1
                clear hP hD hPc hDc hKc hFc hP1 hK1 hD1 hk1 hz1
                generalize H1 = H at hP2 hS ⊢
                have hP := hP2.sub (ws' := (wd_64a2b6a9 h0 h1 h2 v0 v1 h1 g0 f2 h2 g1 fn8)) [1, 0, 2] rfl
                have hD := hD2.sub (ws' := (wd_64a2b6a9 h0 h1 h2 v0 v1 h1 g0 f2 h2 g1 fn8)) [1, 0, 2] (by decide) rfl
                clear hP2 hD2
                obtain ⟨wa_ra43, wb_ra43⟩ := hwra43
                have wa_ra43 : 0 ≤ ra43.toInt := wa_ra43
                have wb_ra43 : ra43.toInt ≤ 1 := wb_ra43
                refine lv_if_eq (tgt := 69) hx hb dX7_loudestCrowd_64 (by decide) (fun c44 => ?_) (fun c44 => ?_)
                · skip
                  have fc44 : ra43.toInt = 0 := congrArg Int32.toInt c44
                  exact hJ40 x32 H locs ls qa_x32 qb_x32 hP hD hS (lv_sub hl [0, 1, 2] rfl)
                · skip
                  have fc44 : ¬ (ra43.toInt = 0) := fun h9 => c44 (Int32.toInt_inj.mp h9)
                  refine lv_iload_n hx hb dX7_loudestCrowd_67 rfl (lv_at hl 0 rfl) ?_
                  refine lv_istore_n (lv' := [(1, .int x31), (2, .int x31), (0, .ref h0)]) hx hb dX7_loudestCrowd_68 rfl hl (by decide) rfl (fun ls hl => ?_)
                  exact hJ40 x31 H locs ls (by first | omega | decide) (by first | omega | decide) hP hD hS (lv_sub hl [1, 0, 2] rfl)
        exact hL35 _ 1 0 H locs ls (by decide) (by decide) (by decide) (by decide) (Nat.lt_succ_self _) hP hD hS (lv_sub hl [0, 1, 2] rfl)
      · skip
        have fc12 : ¬ (8 ≤ x7.toInt) := fun h9 => c12 (Int32.le_iff_toInt_le.mpr h9)
        refine lv_aload_n hx hb dX7_loudestCrowd_8 rfl (lv_at hl 1 rfl) ?_
        refine va_get (D := (dC, dI)) (ci := 7) (v := .ref h2) (C := RX7) (T := TX7) (N := 4) hx hb hts (fun _ h => List.mem_cons_of_mem _ (List.mem_append_right _ h)) hown hK hP 0 rfl rfl 1 (by decide) (hts (.fieldLink RX7 15 "LeftArguments$Room" "perBag" "[I") (List.mem_cons_of_mem _ (List.mem_append_left _ (List.mem_of_getElem? (i := 8) rfl)))) (fun _ h9 => h9) rfl dX7_loudestCrowd_9 ?_
        refine lv_iload_n hx hb dX7_loudestCrowd_12 rfl (lv_at hl 0 rfl) ?_
        refine lv_aload_n hx hb dX7_loudestCrowd_13 rfl (lv_at hl 1 rfl) ?_
        refine lv_iload_n hx hb dX7_loudestCrowd_14 rfl (lv_at hl 0 rfl) ?_
        have hPc := hP.sub (ws' := (wd_ec98a0b6 h0 h1 h2 v0 v1 h1 g0 f2)) [0, 1] rfl
        have hDc := hD.sub (ws' := (wd_ec98a0b6 h0 h1 h2 v0 v1 h1 g0 f2)) [0, 1] (by decide) rfl
        have hKc := hK.sub (tys' := [(g0, .int)]) [0] rfl
        have hFc := va_free (wc := (wd_ec98a0b6 h0 h1 h2 v0 v1 h1 g0 f2)) hD hS hA [0, 1] rfl
        refine va_calli (va_runV (As := [.int x7]) (rest := [.int x7, .ref h2]) ⟨hx, hb, hml, hown, hts⟩ (k_X7_has l dC dI h0 h1 h2 v0 v1 g0 f2 x7  H.size) (cwV 1 hts g_X7_loudestCrowd_3 rfl rfl rfl (by decide +kernel) ⟨Nat.le_of_ble_eq_true rfl, Nat.le_of_ble_eq_true rfl⟩) (pv_PV7 hPc hKc hDc (q0 := 0) rfl) rfl rfl hl.1 rfl (lv_room (Nat.le_of_ble_eq_true rfl)) dX7_loudestCrowd_15 ⟨Nat.le_of_ble_eq_true rfl, Nat.le_of_ble_eq_true rfl⟩) hS (fun q _ h => hFc q h) hFc (fun ra45 u t H1 locs ht hvm hwra45 hB hz1 hk1 hS => ?_)
        obtain ⟨hP1, hK1, hD1⟩ := hB
        rw [ht] at hP1
        obtain ⟨hP2, hD2⟩ := va_join (wr := (wd_063f09b6 h2 g1 fn8)) (w1 := (wd_ec98a0b6 h0 h1 h2 v0 v1 h1 g0 f2)) hP hD [0, 1] [2] rfl rfl (by decide) (by decide) hk1 hFc hP1 hD1
        clear hP hD hPc hDc hKc hFc hP1 hK1 hD1 hk1 hz1
        generalize H1 = H at hP2 hS ⊢
        have hP := hP2.sub (ws' := (wd_64a2b6a9 h0 h1 h2 v0 v1 h1 g0 f2 h2 g1 fn8)) [1, 2, 0] rfl
        have hD := hD2.sub (ws' := (wd_64a2b6a9 h0 h1 h2 v0 v1 h1 g0 f2 h2 g1 fn8)) [1, 2, 0] (by decide) rfl
        clear hP2 hD2
        obtain ⟨wa_ra45, wb_ra45⟩ := hwra45
        have wa_ra45 : 0 ≤ ra45.toInt := wa_ra45
        have wb_ra45 : ra45.toInt ≤ 1 := wb_ra45
        have hJ47 : ∀ (x46 : Int32) (H : Heap) (locs : List Loc) (ls : Array Slot), va_P (dC, dI) vwCl (wd_64a2b6a9 h0 h1 h2 v0 v1 h1 g0 f2 h2 g1 fn8) H → va_D A (wd_64a2b6a9 h0 h1 h2 v0 v1 h1 g0 f2 h2 g1 fn8) → va_S A s.heap H locs → lv_has ls 3 [(1, .int x7), (0, .ref h0)] → W p l e ({ frames := 3, cells := 0, slots := 0, locals := 67 }) s m ([.ref h0] : List Value).toArray below meth c H locs 0 0 Q (F0 m 30 ls [.int x46, .int x7, .ref h2]) := by
          intro x46 H locs ls hP hD hS hl
          refine va_iast hx hb hK hP hD hS 2 1 rfl rfl (vp_in_iff.mpr ⟨by omega, by omega⟩) dX7_loudestCrowd_30 (fun H locs hP hD hS => ?_)
          obtain ⟨fn48, efn48⟩ : ∃ g : Nat → Int32, g = upd fn8 (Int32.toNatClampNeg x7) x46 := ⟨_, rfl⟩
          rw [← efn48] at hP hD
          have hP : va_P (dC, dI) vwCl (wd_64a2b6a9 h0 h1 h2 v0 v1 h1 g0 f2 h2 g1 fn48) H := hP
          have hD : va_D A (wd_64a2b6a9 h0 h1 h2 v0 v1 h1 g0 f2 h2 g1 fn48) := hD
          obtain ⟨t49, et49⟩ : ∃ y : Int32, y = x7 + 1 := ⟨_, rfl⟩
          have gt49 : t49.toInt = x7.toInt + (1) := pv_add (a := x7.toInt) (b := (1)) et49 rfl (by decide) (by omega) (by omega)
          refine lv_iinc (v := t49) (lv' := [(1, .int t49), (0, .ref h0)]) hx hb dX7_loudestCrowd_31 hl (k := 0) rfl (by rw [et49]; rfl) (by decide) rfl (fun ls hl => ?_)
          refine lv_goto (tgt := 2) hx hb dX7_loudestCrowd_34 (by decide) ?_
          exact ih_hL11 t49 fn48 H locs ls (by first | omega | decide) (by first | omega | decide) (by first | omega | (simp only [Int.toNat] at *; omega)) hP hD hS (lv_sub hl [0, 1] rfl)
        refine lv_if_eq (tgt := 29) hx hb dX7_loudestCrowd_18 (by decide) (fun c50 => ?_) (fun c50 => ?_)
        · skip
          have fc50 : ra45.toInt = 0 := congrArg Int32.toInt c50
          refine lv_iconst (v := 0) hx hb dX7_loudestCrowd_29 (by decide) ?_
          exact hJ47 0 H locs ls hP hD hS (lv_sub hl [0, 1] rfl)
        · skip
          have fc50 : ¬ (ra45.toInt = 0) := fun h9 => c50 (Int32.toInt_inj.mp h9)
          refine lv_aload_n hx hb dX7_loudestCrowd_21 rfl (lv_at hl 1 rfl) ?_
          refine lv_iload_n hx hb dX7_loudestCrowd_22 rfl (lv_at hl 0 rfl) ?_
          have hPc := hP.sub (ws' := (wd_ec98a0b6 h0 h1 h2 v0 v1 h1 g0 f2)) [0, 1] rfl
          have hDc := hD.sub (ws' := (wd_ec98a0b6 h0 h1 h2 v0 v1 h1 g0 f2)) [0, 1] (by decide) rfl
          have hKc := hK.sub (tys' := [(g0, .int)]) [0] rfl
          have hFc := va_free (wc := (wd_ec98a0b6 h0 h1 h2 v0 v1 h1 g0 f2)) hD hS hA [0, 1] rfl
          refine va_calli (va_runV (As := [.int x7]) (rest := [.int x7, .ref h2]) ⟨hx, hb, hml, hown, hts⟩ (k_X7_circleOf l dC dI h0 h1 h2 v0 v1 g0 f2 x7  H.size) (cwV 1 hts g_X7_loudestCrowd_4 rfl rfl rfl (by decide +kernel) ⟨Nat.le_of_ble_eq_true rfl, Nat.le_of_ble_eq_true rfl⟩) (pv_PV7 hPc hKc hDc (q0 := 0) rfl) rfl rfl hl.1 rfl (lv_room (Nat.le_of_ble_eq_true rfl)) dX7_loudestCrowd_23 ⟨Nat.le_of_ble_eq_true rfl, Nat.le_of_ble_eq_true rfl⟩) hS (fun q _ h => hFc q h) hFc (fun ra51 u t H1 locs ht hvm hwra51 hB hz1 hk1 hS => ?_)
          obtain ⟨hP1, hK1, hD1⟩ := hB
          rw [ht] at hP1
          obtain ⟨hP2, hD2⟩ := va_join (wr := (wd_063f09b6 h2 g1 fn8)) (w1 := (wd_ec98a0b6 h0 h1 h2 v0 v1 h1 g0 f2)) hP hD [0, 1] [2] rfl rfl (by decide) (by decide) hk1 hFc hP1 hD1
          clear hP hD hPc hDc hKc hFc hP1 hK1 hD1 hk1 hz1
          generalize H1 = H at hP2 hS ⊢
          have hP := hP2.sub (ws' := (wd_64a2b6a9 h0 h1 h2 v0 v1 h1 g0 f2 h2 g1 fn8)) [1, 2, 0] rfl
          have hD := hD2.sub (ws' := (wd_64a2b6a9 h0 h1 h2 v0 v1 h1 g0 f2 h2 g1 fn8)) [1, 2, 0] (by decide) rfl
          clear hP2 hD2
          refine lv_goto (tgt := 30) hx hb dX7_loudestCrowd_26 (by decide) ?_
          exact hJ47 ra51 H locs ls hP hD hS (lv_sub hl [0, 1] rfl)
  exact hL11 _ 0 f3 H locs ls (by decide) (by decide) (Nat.lt_succ_self _) hP hD hS (lv_sub hl [0, 1] rfl)
def q_X11_roar : List Cond := .code yX11_roar cX11_roar 1 (some .int) :: (([.fieldLink RX11 42 "LeftArguments" "office" "LLeftArguments$Office;", .code yX5_stands cX5_stands 1 (some .boolean), .fieldLink RX5 24 "LeftArguments$Office" "stands" "Z", .initialized RX5, .instanceMethod yX5_stands, .selects RX5 yX5_stands yX5_stands, .methodLink RX11 159 yX5_stands, .fieldLink RX11 49 "LeftArguments" "room" "LLeftArguments$Room;", .code yX7_loudestCrowd cX7_loudestCrowd 3 (some .int), .code yJ6_bitCount_0f7a4 cJ6_bitCount_0f7a4 1 (some .int), .constant RJ6 265 (1431655765), .constant RJ6 266 (858993459), .constant RJ6 267 (252645135), .initialized RJ6, .static yJ6_bitCount_0f7a4, .methodLink RX7 120 yJ6_bitCount_0f7a4, .code yX7_isCrowd cX7_isCrowd 3 (some .boolean), .fieldLink RX7 15 "LeftArguments$Room" "perBag" "[I", .initialized RX7, .instanceMethod yX7_isCrowd, .selects RX7 yX7_isCrowd yX7_isCrowd, .methodLink RX7 125 yX7_isCrowd, .code yX7_has cX7_has 2 (some .boolean), .fieldLink RX7 11 "LeftArguments$Room" "cells" "[I", .instanceMethod yX7_has, .selects RX7 yX7_has yX7_has, .methodLink RX7 70 yX7_has, .code yX7_circleOf cX7_circleOf 4 (some .int), .code yX7_setOff cX7_setOff 3 (some .boolean), .code yX7_of cX7_of 3 (some .int), .instanceMethod yX7_of, .selects RX7 yX7_of yX7_of, .methodLink RX7 74 yX7_of, .methodLink RX7 110 Lib.Math.abs.name, .static Lib.Math.abs.name, .initialized "java/lang/Math", .code Lib.Math.abs.name Lib.Math.abs.code 1 (some .int), .instanceMethod yX7_setOff, .selects RX7 yX7_setOff yX7_setOff, .methodLink RX7 113 yX7_setOff, .instanceMethod yX7_circleOf, .selects RX7 yX7_circleOf yX7_circleOf, .methodLink RX7 117 yX7_circleOf, .instanceMethod yX7_loudestCrowd, .selects RX7 yX7_loudestCrowd yX7_loudestCrowd, .methodLink RX11 316 yX7_loudestCrowd] : List Cond) ++ wsX110 ++ wsX50 ++ wsX70)
set_option maxRecDepth 20000 in
theorem g_X11_roar_0 : GoodIn q_X11_roar (wsV RX11 159 RX5 yX5_stands q_X5_stands) := goodIn_app (goodIn_r _ [7, 5, 6, 4] rfl (by decide +kernel)) (goodIn_ca (goodIn_r (.code yX5_stands cX5_stands 1 (some .boolean) :: [.fieldLink RX5 24 "LeftArguments$Office" "stands" "Z"]) [2, 3] rfl (by decide +kernel)) (goodIn_sub (fun _ h => List.mem_cons_of_mem _ (List.mem_append_left _ (List.mem_append_right _ h))) gwX5))
set_option maxRecDepth 20000 in
theorem g_X11_roar_1 : GoodIn q_X11_roar (wsV RX11 316 RX7 yX7_loudestCrowd q_X7_loudestCrowd) := goodIn_app (goodIn_r _ [46, 44, 45, 19] rfl (by decide +kernel)) (goodIn_ca (goodIn_r (.code yX7_loudestCrowd cX7_loudestCrowd 3 (some .int) :: [.code yJ6_bitCount_0f7a4 cJ6_bitCount_0f7a4 1 (some .int), .constant RJ6 265 (1431655765), .constant RJ6 266 (858993459), .constant RJ6 267 (252645135), .initialized RJ6, .static yJ6_bitCount_0f7a4, .methodLink RX7 120 yJ6_bitCount_0f7a4, .code yX7_isCrowd cX7_isCrowd 3 (some .boolean), .fieldLink RX7 15 "LeftArguments$Room" "perBag" "[I", .initialized RX7, .instanceMethod yX7_isCrowd, .selects RX7 yX7_isCrowd yX7_isCrowd, .methodLink RX7 125 yX7_isCrowd, .code yX7_has cX7_has 2 (some .boolean), .fieldLink RX7 11 "LeftArguments$Room" "cells" "[I", .instanceMethod yX7_has, .selects RX7 yX7_has yX7_has, .methodLink RX7 70 yX7_has, .code yX7_circleOf cX7_circleOf 4 (some .int), .code yX7_setOff cX7_setOff 3 (some .boolean), .code yX7_of cX7_of 3 (some .int), .instanceMethod yX7_of, .selects RX7 yX7_of yX7_of, .methodLink RX7 74 yX7_of, .methodLink RX7 110 Lib.Math.abs.name, .static Lib.Math.abs.name, .initialized "java/lang/Math", .code Lib.Math.abs.name Lib.Math.abs.code 1 (some .int), .instanceMethod yX7_setOff, .selects RX7 yX7_setOff yX7_setOff, .methodLink RX7 113 yX7_setOff, .instanceMethod yX7_circleOf, .selects RX7 yX7_circleOf yX7_circleOf, .methodLink RX7 117 yX7_circleOf]) [9, 10, 11, 12, 13, 14, 15, 16, 17, 18, 19, 20, 21, 22, 23, 24, 25, 26, 27, 28, 29, 30, 31, 32, 33, 34, 35, 36, 37, 38, 39, 40, 41, 42, 43] rfl (by decide +kernel)) (goodIn_sub (fun _ h => List.mem_cons_of_mem _ (List.mem_append_right _ h)) gwX7))
set_option maxHeartbeats 4000000 in
set_option maxRecDepth 100000 in
theorem k_X11_roar (l : Launch) (dC : Nat → ClassId) (dI : Nat → Nat → Nat) (h0 : Nat) (h1 : Nat) (h2 : Nat) (h3 : Nat) (h4 : Nat) (r0 : Nat) (r1 : Nat) (r2 : Nat) (r3 : Nat) (r4 : Nat) (r5 : Nat) (r6 : Nat) (r7 : Nat) (r8 : Nat) (r9 : Nat) (r10 : Nat) (r11 : Nat) (v0 : Int32) (v1 : Int32) (w2 : Int64) (r12 : Nat) (r13 : Nat) (v3 : Int32) (v4 : Int32) (v5 : Int32) (v6 : Int32) (g0 : ClassId) (f7 : Nat → Int32) (g1 : ClassId) (f8 : Nat → Int32) (i_v0 : 0 ≤ v0.toInt ∧ v0.toInt ≤ 1) (i_v4 : 0 ≤ v4.toInt ∧ v4.toInt ≤ 1) (sz : Nat) : Met l yX11_roar q_X11_roar ({ frames := 4, cells := 0, slots := 0, locals := 89 }) (va_Pc [.ref h0] (fun U => U.heap.size = sz ∧ va_P (dC, dI) vwCl (wd_3c8a40a2 h0 r0 r1 r2 r3 h1 h2 r4 r5 r6 r7 r8 r9 r10 r11 v0 v1 w2 h1 r12 r13 v3 v4 h2 h3 h4 v5 v6 h3 g0 f7 h4 g1 f8) U.heap ∧ va_K (dC, dI) vwCl [(g0, .int), (g1, .int)] U ∧ va_D (fun _ => True) (wd_3c8a40a2 h0 r0 r1 r2 r3 h1 h2 r4 r5 r6 r7 r8 r9 r10 r11 v0 v1 w2 h1 r12 r13 v3 v4 h2 h3 h4 v5 v6 h3 g0 f7 h4 g1 f8))) (va_Qi (fun (r : Int32) (_ : Unit) => -1 ≤ r.toInt ∧ r.toInt ≤ 255) (fun (_ : Unit) (t : State) => ∃ (o_h4 : Nat → Int32), va_P (dC, dI) vwCl (wd_3c8a40a2 h0 r0 r1 r2 r3 h1 h2 r4 r5 r6 r7 r8 r9 r10 r11 v0 v1 w2 h1 r12 r13 v3 v4 h2 h3 h4 v5 v6 h3 g0 f7 h4 g1 o_h4) t.heap ∧ va_K (dC, dI) vwCl [] t ∧ va_D (va_A (wd_3c8a40a2 h0 r0 r1 r2 r3 h1 h2 r4 r5 r6 r7 r8 r9 r10 r11 v0 v1 w2 h1 r12 r13 v3 v4 h2 h3 h4 v5 v6 h3 g0 f7 h4 g1 f8) sz) (wd_3c8a40a2 h0 r0 r1 r2 r3 h1 h2 r4 r5 r6 r7 r8 r9 r10 r11 v0 v1 w2 h1 r12 r13 v3 v4 h2 h3 h4 v5 v6 h3 g0 f7 h4 g1 o_h4)) (va_A (wd_3c8a40a2 h0 r0 r1 r2 r3 h1 h2 r4 r5 r6 r7 r8 r9 r10 r11 v0 v1 w2 h1 r12 r13 v3 v4 h2 h3 h4 v5 v6 h3 g0 f7 h4 g1 f8) sz)) 0 0 (va_A (wd_3c8a40a2 h0 r0 r1 r2 r3 h1 h2 r4 r5 r6 r7 r8 r9 r10 r11 v0 v1 w2 h1 r12 r13 v3 v4 h2 h3 h4 v5 v6 h3 g0 f7 h4 g1 f8) sz) := by
  refine Met.ofW (cc := cX11_roar) (maxL := 1) (ret := (some .int)) (by decide) rfl ?_
  intro p e s m args below meth c s₁ B hml hv
  obtain ⟨i_v0a, i_v0b⟩ := i_v0
  obtain ⟨i_v4a, i_v4b⟩ := i_v4
  obtain ⟨rfl, hsz, hP, hK, hD0⟩ := hv
  have hx := B.exec
  have hb := B.bytes
  have hr := B.returns
  have hts := atoms_spec (ws := q_X11_roar) B.pre
  have hown : s.vm.findClass RX11 = some m.cls := findClass_of_methodNamed B.named
  have hlocks := B.notSynchronized
  subst hsz
  have hD := hD0.self (sz := s.heap.size)
  generalize hAe : va_A (wd_3c8a40a2 h0 r0 r1 r2 r3 h1 h2 r4 r5 r6 r7 r8 r9 r10 r11 v0 v1 w2 h1 r12 r13 v3 v4 h2 h3 h4 v5 v6 h3 g0 f7 h4 g1 f8) s.heap.size = A at hD ⊢
  have hA : ∀ q : Nat, s.heap.size ≤ q → A q := fun q h => by rw [← hAe]; exact Or.inr h
  have hS : va_S A s.heap s.heap [] := va_S.rf
  generalize hQ : (MQ below _ _ s 0 0 A) = Q
  have hl := lv_entry ([.ref h0]) (n := 1) (Nat.le_of_ble_eq_true rfl)
  rw [lg_entry_eq]
  generalize (lg_sl ([.ref h0]) ++ List.replicate (1 - (lg_sl ([.ref h0])).length) Slot.unset).toArray = ls at hl ⊢
  have hl : lv_has ls 1 [(0, .ref h0)] := hl
  obtain ⟨H, hH⟩ : ∃ H : Heap, H = s.heap := ⟨_, rfl⟩
  obtain ⟨locs, hlocs⟩ : ∃ y : List Loc, y = [] := ⟨_, rfl⟩
  have hS : va_S A s.heap H locs := by rw [hH, hlocs]; exact va_S.rf
  have hP : va_P (dC, dI) vwCl (wd_3c8a40a2 h0 r0 r1 r2 r3 h1 h2 r4 r5 r6 r7 r8 r9 r10 r11 v0 v1 w2 h1 r12 r13 v3 v4 h2 h3 h4 v5 v6 h3 g0 f7 h4 g1 f8) H := by rw [hH]; exact hP
  rw [← hH, ← hlocs]
  refine lv_aload_n hx hb dX11_roar_0 rfl (lv_at hl 0 rfl) ?_
  refine va_get (D := (dC, dI)) (ci := 11) (v := .ref h1) (C := RX11) (T := TX11) (N := 17) hx hb hts (fun _ h => List.mem_cons_of_mem _ (List.mem_append_left _ (List.mem_append_left _ (List.mem_append_right _ h)))) hown hK hP 0 rfl rfl 4 (by decide) (hts (.fieldLink RX11 42 "LeftArguments" "office" "LLeftArguments$Office;") (List.mem_cons_of_mem _ (List.mem_append_left _ (List.mem_append_left _ (List.mem_append_left _ (List.mem_of_getElem? (i := 0) rfl)))))) (fun _ h9 => h9) rfl dX11_roar_1 ?_
  have hPc := hP.sub (ws' := (wd_c0c7465f h1 r12 r13 v3 v4)) [1] rfl
  have hDc := hD.sub (ws' := (wd_c0c7465f h1 r12 r13 v3 v4)) [1] (by decide) rfl
  have hKc := hK.sub (tys' := []) [] rfl
  have hFc := va_free (wc := (wd_c0c7465f h1 r12 r13 v3 v4)) hD hS hA [1] rfl
  refine va_calli (va_runV (As := []) (rest := []) ⟨hx, hb, hml, hown, hts⟩ (k_X5_stands l dC dI h1 r12 r13 v3 v4 ⟨i_v4a, i_v4b⟩ H.size) (cwV 0 hts g_X11_roar_0 rfl rfl rfl (by decide +kernel) ⟨Nat.le_of_ble_eq_true rfl, Nat.le_of_ble_eq_true rfl⟩) (pv_PV5 hPc hKc hDc (q0 := 0) rfl) rfl rfl hl.1 rfl (lv_room (Nat.le_of_ble_eq_true rfl)) dX11_roar_4 ⟨Nat.le_of_ble_eq_true rfl, Nat.le_of_ble_eq_true rfl⟩) hS (fun q _ h => hFc q h) hFc (fun ra1 u t H1 locs ht hvm hwra1 hB hz1 hk1 hS => ?_)
  obtain ⟨hP1, hK1, hD1⟩ := hB
  rw [ht] at hP1
  obtain ⟨hP2, hD2⟩ := va_join (wr := (wd_558c951d h0 r0 r1 r2 r3 h1 h2 r4 r5 r6 r7 r8 r9 r10 r11 v0 v1 w2 h2 h3 h4 v5 v6 h3 g0 f7 h4 g1 f8)) (w1 := (wd_c0c7465f h1 r12 r13 v3 v4)) hP hD [1] [0, 2, 3, 4] rfl rfl (by decide) (by decide) hk1 hFc hP1 hD1
  clear hP hD hPc hDc hKc hFc hP1 hK1 hD1 hk1 hz1
  generalize H1 = H at hP2 hS ⊢
  have hP := hP2.sub (ws' := (wd_3c8a40a2 h0 r0 r1 r2 r3 h1 h2 r4 r5 r6 r7 r8 r9 r10 r11 v0 v1 w2 h1 r12 r13 v3 v4 h2 h3 h4 v5 v6 h3 g0 f7 h4 g1 f8)) [0, 4, 1, 2, 3] rfl
  have hD := hD2.sub (ws' := (wd_3c8a40a2 h0 r0 r1 r2 r3 h1 h2 r4 r5 r6 r7 r8 r9 r10 r11 v0 v1 w2 h1 r12 r13 v3 v4 h2 h3 h4 v5 v6 h3 g0 f7 h4 g1 f8)) [0, 4, 1, 2, 3] (by decide) rfl
  clear hP2 hD2
  obtain ⟨wa_ra1, wb_ra1⟩ := hwra1
  have wa_ra1 : 0 ≤ ra1.toInt := wa_ra1
  have wb_ra1 : ra1.toInt ≤ 1 := wb_ra1
  have hJ4 : ∀ (x2 : Int32) (fn3 : Nat → Int32) (H : Heap) (locs : List Loc) (ls : Array Slot), -1 ≤ x2.toInt → x2.toInt ≤ 255 → va_P (dC, dI) vwCl (wd_3c8a40a2 h0 r0 r1 r2 r3 h1 h2 r4 r5 r6 r7 r8 r9 r10 r11 v0 v1 w2 h1 r12 r13 v3 v4 h2 h3 h4 v5 v6 h3 g0 f7 h4 g1 fn3) H → va_D A (wd_3c8a40a2 h0 r0 r1 r2 r3 h1 h2 r4 r5 r6 r7 r8 r9 r10 r11 v0 v1 w2 h1 r12 r13 v3 v4 h2 h3 h4 v5 v6 h3 g0 f7 h4 g1 fn3) → va_S A s.heap H locs → lv_has ls 1 [(0, .ref h0)] → W p l e ({ frames := 4, cells := 0, slots := 0, locals := 89 }) s m ([.ref h0] : List Value).toArray below meth c H locs 0 0 Q (F0 m 21 ls [.int x2]) := by
    intro x2 fn3 H locs ls qa_x2 qb_x2 hP hD hS hl
    subst hQ
    have hP9 := hP.sub (ws' := (wd_3c8a40a2 h0 r0 r1 r2 r3 h1 h2 r4 r5 r6 r7 r8 r9 r10 r11 v0 v1 w2 h1 r12 r13 v3 v4 h2 h3 h4 v5 v6 h3 g0 f7 h4 g1 fn3)) [0, 1, 2, 3, 4] rfl
    have hD9 := hD.sub (ws' := (wd_3c8a40a2 h0 r0 r1 r2 r3 h1 h2 r4 r5 r6 r7 r8 r9 r10 r11 v0 v1 w2 h1 r12 r13 v3 v4 h2 h3 h4 v5 v6 h3 g0 f7 h4 g1 fn3)) [0, 1, 2, 3, 4] (by decide) rfl
    have hK9 := hK.sub (tys' := []) [] rfl
    exact W.iret (v := x2) hx hb hr (fun t ht hW => ⟨⟨x2, (), rfl, ⟨by first | omega | decide, by first | omega | decide⟩, fn3, by rw [ht]; exact hP9, va_K.moved hW.alike hK9, hD9⟩, hS.F ht⟩) hS.2.2 dX11_roar_21
  refine lv_if_eq (tgt := 20) hx hb dX11_roar_7 (by decide) (fun c5 => ?_) (fun c5 => ?_)
  · skip
    have fc5 : ra1.toInt = 0 := congrArg Int32.toInt c5
    refine lv_iconst (v := (-1)) hx hb dX11_roar_20 (by decide) ?_
    exact hJ4 ((-1)) f8 H locs ls (by decide) (by decide) hP hD hS (lv_sub hl [0] rfl)
  · skip
    have fc5 : ¬ (ra1.toInt = 0) := fun h9 => c5 (Int32.toInt_inj.mp h9)
    refine lv_aload_n hx hb dX11_roar_10 rfl (lv_at hl 0 rfl) ?_
    refine va_get (D := (dC, dI)) (ci := 11) (v := .ref h2) (C := RX11) (T := TX11) (N := 17) hx hb hts (fun _ h => List.mem_cons_of_mem _ (List.mem_append_left _ (List.mem_append_left _ (List.mem_append_right _ h)))) hown hK hP 0 rfl rfl 5 (by decide) (hts (.fieldLink RX11 49 "LeftArguments" "room" "LLeftArguments$Room;") (List.mem_cons_of_mem _ (List.mem_append_left _ (List.mem_append_left _ (List.mem_append_left _ (List.mem_of_getElem? (i := 7) rfl)))))) (fun _ h9 => h9) rfl dX11_roar_11 ?_
    have hPc := hP.sub (ws' := (wd_64a2b6a9 h2 h3 h4 v5 v6 h3 g0 f7 h4 g1 f8)) [2, 3, 4] rfl
    have hDc := hD.sub (ws' := (wd_64a2b6a9 h2 h3 h4 v5 v6 h3 g0 f7 h4 g1 f8)) [2, 3, 4] (by decide) rfl
    have hKc := hK.sub (tys' := [(g0, .int), (g1, .int)]) [0, 1] rfl
    have hFc := va_free (wc := (wd_64a2b6a9 h2 h3 h4 v5 v6 h3 g0 f7 h4 g1 f8)) hD hS hA [2, 3, 4] rfl
    refine va_calli (va_runV (As := []) (rest := []) ⟨hx, hb, hml, hown, hts⟩ (k_X7_loudestCrowd l dC dI h2 h3 h4 v5 v6 g0 f7 g1 f8  H.size) (cwV 0 hts g_X11_roar_1 rfl rfl rfl (by decide +kernel) ⟨Nat.le_of_ble_eq_true rfl, Nat.le_of_ble_eq_true rfl⟩) (pv_PV7 hPc hKc hDc (q0 := 0) rfl) rfl rfl hl.1 rfl (lv_room (Nat.le_of_ble_eq_true rfl)) dX11_roar_14 ⟨Nat.le_of_ble_eq_true rfl, Nat.le_of_ble_eq_true rfl⟩) hS (fun q _ h => hFc q h) hFc (fun ra6 u t H1 locs ht hvm hwra6 hB hz1 hk1 hS => ?_)
    obtain ⟨fn7, hP1, hK1, hD1⟩ := hB
    rw [ht] at hP1
    obtain ⟨hP2, hD2⟩ := va_join (wr := (wd_4339518d h0 r0 r1 r2 r3 h1 h2 r4 r5 r6 r7 r8 r9 r10 r11 v0 v1 w2 h1 r12 r13 v3 v4)) (w1 := (wd_64a2b6a9 h2 h3 h4 v5 v6 h3 g0 f7 h4 g1 fn7)) hP hD [2, 3, 4] [0, 1] rfl rfl (by decide) (by decide) hk1 hFc hP1 hD1
    clear hP hD hPc hDc hKc hFc hP1 hK1 hD1 hk1 hz1
    generalize H1 = H at hP2 hS ⊢
    have hP : va_P (dC, dI) vwCl (wd_3c8a40a2 h0 r0 r1 r2 r3 h1 h2 r4 r5 r6 r7 r8 r9 r10 r11 v0 v1 w2 h1 r12 r13 v3 v4 h2 h3 h4 v5 v6 h3 g0 f7 h4 g1 fn7) H := hP2
    have hD : va_D A (wd_3c8a40a2 h0 r0 r1 r2 r3 h1 h2 r4 r5 r6 r7 r8 r9 r10 r11 v0 v1 w2 h1 r12 r13 v3 v4 h2 h3 h4 v5 v6 h3 g0 f7 h4 g1 fn7) := hD2
    clear hP2 hD2
    obtain ⟨wa_ra6, wb_ra6⟩ := hwra6
    have wa_ra6 : 0 ≤ ra6.toInt := wa_ra6
    have wb_ra6 : ra6.toInt ≤ 255 := wb_ra6
    refine lv_goto (tgt := 21) hx hb dX11_roar_17 (by decide) ?_
    exact hJ4 ra6 fn7 H locs ls (by first | omega | decide) (by first | omega | decide) hP hD hS (lv_sub hl [0] rfl)
def q_X2_outcomeCell : List Cond := .code yX2_outcomeCell cX2_outcomeCell 3 (some .int) :: (([] : List Cond))
set_option maxHeartbeats 4000000 in
set_option maxRecDepth 100000 in
theorem k_X2_outcomeCell (l : Launch) (dC : Nat → ClassId) (dI : Nat → Nat → Nat) (v0 : Int32) (v1 : Int32) (v2 : Int32) (sz : Nat) : Met l yX2_outcomeCell q_X2_outcomeCell ({ frames := 0, cells := 0, slots := 0, locals := 0 }) (va_Pc [.int v0, .int v1, .int v2] (fun U => U.heap.size = sz ∧ va_P (dC, dI) vwCl [] U.heap ∧ va_K (dC, dI) vwCl [] U ∧ va_D (fun _ => True) [])) (va_Qi (fun (r : Int32) (_ : Unit) => True) (fun (_ : Unit) (t : State) => va_P (dC, dI) vwCl [] t.heap ∧ va_K (dC, dI) vwCl [] t ∧ va_D (va_A [] sz) []) (va_A [] sz)) 0 0 (va_A [] sz) := by
  refine Met.ofW (cc := cX2_outcomeCell) (maxL := 3) (ret := (some .int)) (by decide) rfl ?_
  intro p e s m args below meth c s₁ B hml hv
  obtain ⟨rfl, hsz, hP, hK, hD0⟩ := hv
  have hx := B.exec
  have hb := B.bytes
  have hr := B.returns
  have hts := atoms_spec (ws := q_X2_outcomeCell) B.pre
  have hown : s.vm.findClass RX2 = some m.cls := findClass_of_methodNamed B.named
  have hlocks := B.notSynchronized
  subst hsz
  have hD := hD0.self (sz := s.heap.size)
  generalize hAe : va_A [] s.heap.size = A at hD ⊢
  have hA : ∀ q : Nat, s.heap.size ≤ q → A q := fun q h => by rw [← hAe]; exact Or.inr h
  have hS : va_S A s.heap s.heap [] := va_S.rf
  generalize hQ : (MQ below _ _ s 0 0 A) = Q
  have hl := lv_entry ([.int v0, .int v1, .int v2]) (n := 3) (Nat.le_of_ble_eq_true rfl)
  rw [lg_entry_eq]
  generalize (lg_sl ([.int v0, .int v1, .int v2]) ++ List.replicate (3 - (lg_sl ([.int v0, .int v1, .int v2])).length) Slot.unset).toArray = ls at hl ⊢
  have hl : lv_has ls 3 [(0, .int v0), (1, .int v1), (2, .int v2)] := hl
  obtain ⟨H, hH⟩ : ∃ H : Heap, H = s.heap := ⟨_, rfl⟩
  obtain ⟨locs, hlocs⟩ : ∃ y : List Loc, y = [] := ⟨_, rfl⟩
  have hS : va_S A s.heap H locs := by rw [hH, hlocs]; exact va_S.rf
  have hP : va_P (dC, dI) vwCl [] H := by rw [hH]; exact hP
  rw [← hH, ← hlocs]
  refine lv_iload_n hx hb dX2_outcomeCell_0 rfl (lv_at hl 0 rfl) ?_
  refine lv_iconst (v := 4) hx hb dX2_outcomeCell_1 (by decide) ?_
  refine lv_imul hx hb dX2_outcomeCell_2 ?_
  refine lv_topi (fun t1 et1 => ?_)
  refine lv_iload_n hx hb dX2_outcomeCell_3 rfl (lv_at hl 1 rfl) ?_
  refine lv_iadd hx hb dX2_outcomeCell_4 ?_
  refine lv_topi (fun t2 et2 => ?_)
  refine lv_iconst (v := 2) hx hb dX2_outcomeCell_5 (by decide) ?_
  refine lv_imul hx hb dX2_outcomeCell_6 ?_
  refine lv_topi (fun t3 et3 => ?_)
  refine lv_iload_n hx hb dX2_outcomeCell_7 rfl (lv_at hl 2 rfl) ?_
  refine lv_iadd hx hb dX2_outcomeCell_8 ?_
  refine lv_topi (fun t4 et4 => ?_)
  subst hQ
  have hP9 := hP.sub (ws' := []) [] rfl
  have hD9 := hD.sub (ws' := []) [] (by decide) rfl
  have hK9 := hK.sub (tys' := []) [] rfl
  exact W.iret (v := t4) hx hb hr (fun t ht hW => ⟨⟨t4, (), rfl, trivial, by rw [ht]; exact hP9, va_K.moved hW.alike hK9, hD9⟩, hS.F ht⟩) hS.2.2 dX2_outcomeCell_9
def q_X5_hasTold : List Cond := .code yX5_hasTold cX5_hasTold 2 (some .boolean) :: (([.fieldLink RX5 20 "LeftArguments$Office" "toldCount" "I"] : List Cond) ++ wsX50)
set_option maxHeartbeats 4000000 in
set_option maxRecDepth 100000 in
theorem k_X5_hasTold (l : Launch) (dC : Nat → ClassId) (dI : Nat → Nat → Nat) (h0 : Nat) (r0 : Nat) (r1 : Nat) (v0 : Int32) (v1 : Int32) (v2 : Int32) (i_v1 : 0 ≤ v1.toInt ∧ v1.toInt ≤ 1) (sz : Nat) : Met l yX5_hasTold q_X5_hasTold ({ frames := 0, cells := 0, slots := 0, locals := 0 }) (va_Pc [.ref h0, .int v2] (fun U => U.heap.size = sz ∧ va_P (dC, dI) vwCl (wd_c0c7465f h0 r0 r1 v0 v1) U.heap ∧ va_K (dC, dI) vwCl [] U ∧ va_D (fun _ => True) (wd_c0c7465f h0 r0 r1 v0 v1))) (va_Qi (fun (r : Int32) (_ : Unit) => 0 ≤ r.toInt ∧ r.toInt ≤ 1) (fun (_ : Unit) (t : State) => va_P (dC, dI) vwCl (wd_c0c7465f h0 r0 r1 v0 v1) t.heap ∧ va_K (dC, dI) vwCl [] t ∧ va_D (va_A (wd_c0c7465f h0 r0 r1 v0 v1) sz) (wd_c0c7465f h0 r0 r1 v0 v1)) (va_A (wd_c0c7465f h0 r0 r1 v0 v1) sz)) 0 0 (va_A (wd_c0c7465f h0 r0 r1 v0 v1) sz) := by
  refine Met.ofW (cc := cX5_hasTold) (maxL := 2) (ret := (some .boolean)) (by decide) rfl ?_
  intro p e s m args below meth c s₁ B hml hv
  obtain ⟨i_v1a, i_v1b⟩ := i_v1
  obtain ⟨rfl, hsz, hP, hK, hD0⟩ := hv
  have hx := B.exec
  have hb := B.bytes
  have hr := B.returns
  have hts := atoms_spec (ws := q_X5_hasTold) B.pre
  have hown : s.vm.findClass RX5 = some m.cls := findClass_of_methodNamed B.named
  have hlocks := B.notSynchronized
  subst hsz
  have hD := hD0.self (sz := s.heap.size)
  generalize hAe : va_A (wd_c0c7465f h0 r0 r1 v0 v1) s.heap.size = A at hD ⊢
  have hA : ∀ q : Nat, s.heap.size ≤ q → A q := fun q h => by rw [← hAe]; exact Or.inr h
  have hS : va_S A s.heap s.heap [] := va_S.rf
  generalize hQ : (MQ below _ _ s 0 0 A) = Q
  have hl := lv_entry ([.ref h0, .int v2]) (n := 2) (Nat.le_of_ble_eq_true rfl)
  rw [lg_entry_eq]
  generalize (lg_sl ([.ref h0, .int v2]) ++ List.replicate (2 - (lg_sl ([.ref h0, .int v2])).length) Slot.unset).toArray = ls at hl ⊢
  have hl : lv_has ls 2 [(0, .ref h0), (1, .int v2)] := hl
  obtain ⟨H, hH⟩ : ∃ H : Heap, H = s.heap := ⟨_, rfl⟩
  obtain ⟨locs, hlocs⟩ : ∃ y : List Loc, y = [] := ⟨_, rfl⟩
  have hS : va_S A s.heap H locs := by rw [hH, hlocs]; exact va_S.rf
  have hP : va_P (dC, dI) vwCl (wd_c0c7465f h0 r0 r1 v0 v1) H := by rw [hH]; exact hP
  rw [← hH, ← hlocs]
  refine lv_iload_n hx hb dX5_hasTold_0 rfl (lv_at hl 1 rfl) ?_
  have hJ2 : ∀ (x1 : Int32) (H : Heap) (locs : List Loc) (ls : Array Slot), 0 ≤ x1.toInt → x1.toInt ≤ 1 → va_P (dC, dI) vwCl (wd_c0c7465f h0 r0 r1 v0 v1) H → va_D A (wd_c0c7465f h0 r0 r1 v0 v1) → va_S A s.heap H locs → lv_has ls 2 [(0, .ref h0), (1, .int v2)] → W p l e ({ frames := 0, cells := 0, slots := 0, locals := 0 }) s m ([.ref h0, .int v2] : List Value).toArray below meth c H locs 0 0 Q (F0 m 17 ls [.int x1]) := by
    intro x1 H locs ls qa_x1 qb_x1 hP hD hS hl
    subst hQ
    have hP9 := hP.sub (ws' := (wd_c0c7465f h0 r0 r1 v0 v1)) [0] rfl
    have hD9 := hD.sub (ws' := (wd_c0c7465f h0 r0 r1 v0 v1)) [0] (by decide) rfl
    have hK9 := hK.sub (tys' := []) [] rfl
    exact W.zret (v := x1) hx hb hr (pv_nz (by omega) (by omega)) (fun t ht hW => ⟨⟨x1, (), rfl, ⟨by first | omega | decide, by first | omega | decide⟩, by rw [ht]; exact hP9, va_K.moved hW.alike hK9, hD9⟩, hS.F ht⟩) hS.2.2 dX5_hasTold_17
  refine lv_if_lt (tgt := 16) hx hb dX5_hasTold_1 (by decide) (fun c3 => ?_) (fun c3 => ?_)
  · skip
    have fc3 : v2.toInt < 0 := Int32.lt_iff_toInt_lt.mp c3
    refine lv_iconst (v := 0) hx hb dX5_hasTold_16 (by decide) ?_
    exact hJ2 0 H locs ls (by decide) (by decide) hP hD hS (lv_sub hl [0, 1] rfl)
  · skip
    have fc3 : ¬ (v2.toInt < 0) := fun h9 => c3 (Int32.lt_iff_toInt_lt.mpr h9)
    refine lv_iload_n hx hb dX5_hasTold_4 rfl (lv_at hl 1 rfl) ?_
    refine lv_aload_n hx hb dX5_hasTold_5 rfl (lv_at hl 0 rfl) ?_
    refine va_get (D := (dC, dI)) (ci := 5) (v := .int v0) (C := RX5) (T := TX5) (N := 4) hx hb hts (fun _ h => List.mem_cons_of_mem _ (List.mem_append_right _ h)) hown hK hP 0 rfl rfl 2 (by decide) (hts (.fieldLink RX5 20 "LeftArguments$Office" "toldCount" "I") (List.mem_cons_of_mem _ (List.mem_append_left _ (List.mem_of_getElem? (i := 0) rfl)))) (fun _ h9 => h9) rfl dX5_hasTold_6 ?_
    refine lv_icmp_ge (tgt := 16) hx hb dX5_hasTold_9 (by decide) (fun c4 => ?_) (fun c4 => ?_)
    · skip
      have fc4 : v0.toInt ≤ v2.toInt := Int32.le_iff_toInt_le.mp c4
      have r1c4 := Int32.toInt_lt v2
      have r2c4 := Int32.toInt_lt v0
      have r3c4 := Int32.le_toInt v2
      have r4c4 := Int32.le_toInt v0
      refine lv_iconst (v := 0) hx hb dX5_hasTold_16 (by decide) ?_
      exact hJ2 0 H locs ls (by decide) (by decide) hP hD hS (lv_sub hl [0, 1] rfl)
    · skip
      have fc4 : ¬ (v0.toInt ≤ v2.toInt) := fun h9 => c4 (Int32.le_iff_toInt_le.mpr h9)
      have r1c4 := Int32.toInt_lt v2
      have r2c4 := Int32.toInt_lt v0
      have r3c4 := Int32.le_toInt v2
      have r4c4 := Int32.le_toInt v0
      refine lv_iconst (v := 1) hx hb dX5_hasTold_12 (by decide) ?_
      refine lv_goto (tgt := 17) hx hb dX5_hasTold_13 (by decide) ?_
      exact hJ2 1 H locs ls (by decide) (by decide) hP hD hS (lv_sub hl [0, 1] rfl)
def q_X8_fewestByRoom : List Cond := .code yX8_fewestByRoom cX8_fewestByRoom 3 (some .int) :: (([.fieldLink RX8 37 "LeftArguments$Rows" "byRoom" "Z", .fieldLink RX8 34 "LeftArguments$Rows" "wide" "I", .code yX8_fewest cX8_fewest 3 (some .int), .fieldLink RX8 24 "LeftArguments$Rows" "loads" "[I", .code yJ7_fill_53178 cJ7_fill_53178 4 none, .initialized RJ7, .static yJ7_fill_53178, .methodLink RX8 58 yJ7_fill_53178, .fieldLink RX8 27 "LeftArguments$Rows" "standing" "[I", .code yX8_place cX8_place 5 (some .boolean), .fieldLink RX8 30 "LeftArguments$Rows" "bags" "I", .code yX8_standsWell cX8_standsWell 3 (some .boolean), .fieldLink RX8 15 "LeftArguments$Rows" "circles" "[I", .fieldLink RX8 9 "LeftArguments$Rows" "sizes" "[I", .initialized RX8, .instanceMethod yX8_standsWell, .selects RX8 yX8_standsWell yX8_standsWell, .methodLink RX8 68 yX8_standsWell, .fieldLink RX8 21 "LeftArguments$Rows" "chosen" "[I", .fieldLink RX8 18 "LeftArguments$Rows" "places" "[I", .methodLink RX8 72 Lib.Math.max.name, .static Lib.Math.max.name, .initialized "java/lang/Math", .code Lib.Math.max.name Lib.Math.max.code 2 (some .int), .instanceMethod yX8_place, .selects RX8 yX8_place yX8_place, .methodLink RX8 64 yX8_place, .instanceMethod yX8_fewest, .selects RX8 yX8_fewest yX8_fewest, .methodLink RX8 55 yX8_fewest] : List Cond) ++ wsX80)
set_option maxRecDepth 20000 in
theorem g_X8_fewestByRoom_0 : GoodIn q_X8_fewestByRoom (wsV RX8 55 RX8 yX8_fewest q_X8_fewest) := goodIn_app (goodIn_r _ [30, 28, 29, 15] rfl (by decide +kernel)) (goodIn_ca (goodIn_r (.code yX8_fewest cX8_fewest 3 (some .int) :: [.fieldLink RX8 24 "LeftArguments$Rows" "loads" "[I", .code yJ7_fill_53178 cJ7_fill_53178 4 none, .initialized RJ7, .static yJ7_fill_53178, .methodLink RX8 58 yJ7_fill_53178, .fieldLink RX8 27 "LeftArguments$Rows" "standing" "[I", .code yX8_place cX8_place 5 (some .boolean), .fieldLink RX8 30 "LeftArguments$Rows" "bags" "I", .code yX8_standsWell cX8_standsWell 3 (some .boolean), .fieldLink RX8 37 "LeftArguments$Rows" "byRoom" "Z", .fieldLink RX8 15 "LeftArguments$Rows" "circles" "[I", .fieldLink RX8 9 "LeftArguments$Rows" "sizes" "[I", .fieldLink RX8 34 "LeftArguments$Rows" "wide" "I", .initialized RX8, .instanceMethod yX8_standsWell, .selects RX8 yX8_standsWell yX8_standsWell, .methodLink RX8 68 yX8_standsWell, .fieldLink RX8 21 "LeftArguments$Rows" "chosen" "[I", .fieldLink RX8 18 "LeftArguments$Rows" "places" "[I", .methodLink RX8 72 Lib.Math.max.name, .static Lib.Math.max.name, .initialized "java/lang/Math", .code Lib.Math.max.name Lib.Math.max.code 2 (some .int), .instanceMethod yX8_place, .selects RX8 yX8_place yX8_place, .methodLink RX8 64 yX8_place]) [3, 4, 5, 6, 7, 8, 9, 10, 11, 12, 1, 13, 14, 2, 15, 16, 17, 18, 19, 20, 21, 22, 23, 24, 25, 26, 27] rfl (by decide +kernel)) (goodIn_sub (fun _ h => List.mem_cons_of_mem _ (List.mem_append_right _ h)) gwX8))
set_option maxHeartbeats 4000000 in
set_option maxRecDepth 100000 in
theorem k_X8_fewestByRoom (l : Launch) (dC : Nat → ClassId) (dI : Nat → Nat → Nat) (h0 : Nat) (h1 : Nat) (h2 : Nat) (h3 : Nat) (h4 : Nat) (h5 : Nat) (h6 : Nat) (v0 : Int32) (v1 : Int32) (v2 : Int32) (g0 : ClassId) (f3 : Nat → Int32) (g1 : ClassId) (f4 : Nat → Int32) (g2 : ClassId) (f5 : Nat → Int32) (g3 : ClassId) (f6 : Nat → Int32) (g4 : ClassId) (f7 : Nat → Int32) (g5 : ClassId) (f8 : Nat → Int32) (v9 : Int32) (v10 : Int32) (i_v2 : 0 ≤ v2.toInt ∧ v2.toInt ≤ 1) (sz : Nat) : Met l yX8_fewestByRoom q_X8_fewestByRoom ({ frames := 10, cells := 0, slots := 0, locals := 238 }) (va_Pc [.ref h0, .int v9, .int v10] (fun U => U.heap.size = sz ∧ va_P (dC, dI) vwCl (wd_1ad5b18c h0 h1 h2 h3 h4 h5 h6 v0 v1 v2 h1 g0 f3 h2 g1 f4 h3 g2 f5 h4 g3 f6 h5 g4 f7 h6 g5 f8) U.heap ∧ va_K (dC, dI) vwCl [(g0, .int), (g1, .int), (g2, .int), (g3, .int), (g4, .int), (g5, .int)] U ∧ va_D (fun _ => True) (wd_1ad5b18c h0 h1 h2 h3 h4 h5 h6 v0 v1 v2 h1 g0 f3 h2 g1 f4 h3 g2 f5 h4 g3 f6 h5 g4 f7 h6 g5 f8))) (va_Qi (fun (r : Int32) (_ : Unit) => -1 ≤ r.toInt ∧ r.toInt ≤ 8) (fun (_ : Unit) (t : State) => ∃ (o_h0_7 : Int32) (o_h0_8 : Int32) (o_h4 : Nat → Int32) (o_h5 : Nat → Int32) (o_h6 : Nat → Int32), 0 ≤ o_h0_8.toInt ∧ o_h0_8.toInt ≤ 1 ∧ va_P (dC, dI) vwCl (wd_1ad5b18c h0 h1 h2 h3 h4 h5 h6 v0 o_h0_7 o_h0_8 h1 g0 f3 h2 g1 f4 h3 g2 f5 h4 g3 o_h4 h5 g4 o_h5 h6 g5 o_h6) t.heap ∧ va_K (dC, dI) vwCl [] t ∧ va_D (va_A (wd_1ad5b18c h0 h1 h2 h3 h4 h5 h6 v0 v1 v2 h1 g0 f3 h2 g1 f4 h3 g2 f5 h4 g3 f6 h5 g4 f7 h6 g5 f8) sz) (wd_1ad5b18c h0 h1 h2 h3 h4 h5 h6 v0 o_h0_7 o_h0_8 h1 g0 f3 h2 g1 f4 h3 g2 f5 h4 g3 o_h4 h5 g4 o_h5 h6 g5 o_h6)) (va_A (wd_1ad5b18c h0 h1 h2 h3 h4 h5 h6 v0 v1 v2 h1 g0 f3 h2 g1 f4 h3 g2 f5 h4 g3 f6 h5 g4 f7 h6 g5 f8) sz)) 0 0 (va_A (wd_1ad5b18c h0 h1 h2 h3 h4 h5 h6 v0 v1 v2 h1 g0 f3 h2 g1 f4 h3 g2 f5 h4 g3 f6 h5 g4 f7 h6 g5 f8) sz) := by
  refine Met.ofW (cc := cX8_fewestByRoom) (maxL := 3) (ret := (some .int)) (by decide) rfl ?_
  intro p e s m args below meth c s₁ B hml hv
  obtain ⟨i_v2a, i_v2b⟩ := i_v2
  obtain ⟨rfl, hsz, hP, hK, hD0⟩ := hv
  have hx := B.exec
  have hb := B.bytes
  have hr := B.returns
  have hts := atoms_spec (ws := q_X8_fewestByRoom) B.pre
  have hown : s.vm.findClass RX8 = some m.cls := findClass_of_methodNamed B.named
  have hlocks := B.notSynchronized
  subst hsz
  have hD := hD0.self (sz := s.heap.size)
  generalize hAe : va_A (wd_1ad5b18c h0 h1 h2 h3 h4 h5 h6 v0 v1 v2 h1 g0 f3 h2 g1 f4 h3 g2 f5 h4 g3 f6 h5 g4 f7 h6 g5 f8) s.heap.size = A at hD ⊢
  have hA : ∀ q : Nat, s.heap.size ≤ q → A q := fun q h => by rw [← hAe]; exact Or.inr h
  have hS : va_S A s.heap s.heap [] := va_S.rf
  generalize hQ : (MQ below _ _ s 0 0 A) = Q
  have hl := lv_entry ([.ref h0, .int v9, .int v10]) (n := 3) (Nat.le_of_ble_eq_true rfl)
  rw [lg_entry_eq]
  generalize (lg_sl ([.ref h0, .int v9, .int v10]) ++ List.replicate (3 - (lg_sl ([.ref h0, .int v9, .int v10])).length) Slot.unset).toArray = ls at hl ⊢
  have hl : lv_has ls 3 [(0, .ref h0), (1, .int v9), (2, .int v10)] := hl
  obtain ⟨H, hH⟩ : ∃ H : Heap, H = s.heap := ⟨_, rfl⟩
  obtain ⟨locs, hlocs⟩ : ∃ y : List Loc, y = [] := ⟨_, rfl⟩
  have hS : va_S A s.heap H locs := by rw [hH, hlocs]; exact va_S.rf
  have hP : va_P (dC, dI) vwCl (wd_1ad5b18c h0 h1 h2 h3 h4 h5 h6 v0 v1 v2 h1 g0 f3 h2 g1 f4 h3 g2 f5 h4 g3 f6 h5 g4 f7 h6 g5 f8) H := by rw [hH]; exact hP
  rw [← hH, ← hlocs]
  refine lv_aload_n hx hb dX8_fewestByRoom_0 rfl (lv_at hl 0 rfl) ?_
  refine lv_iconst (v := 1) hx hb dX8_fewestByRoom_1 (by decide) ?_
  refine va_put (D := (dC, dI)) (ci := 8) (v := .int 1) (ty := .boolean) (C := RX8) (T := TX8) (N := 9) hx hb hts (fun _ h => List.mem_cons_of_mem _ (List.mem_append_right _ h)) tyX8 tyX8_ok nmX8 hown hK hP hD hS 0 rfl rfl 8 (by decide) (hts (.fieldLink RX8 37 "LeftArguments$Rows" "byRoom" "Z") (List.mem_cons_of_mem _ (List.mem_append_left _ (List.mem_of_getElem? (i := 0) rfl)))) (fun _ h9 => h9) rfl (by decide +kernel) rfl rfl (Nat.le_of_ble_eq_true rfl) dX8_fewestByRoom_2 (fun H locs hP hD hS => ?_)
  have hP : va_P (dC, dI) vwCl (wd_1ad5b18c h0 h1 h2 h3 h4 h5 h6 v0 v1 1 h1 g0 f3 h2 g1 f4 h3 g2 f5 h4 g3 f6 h5 g4 f7 h6 g5 f8) H := hP
  have hD : va_D A (wd_1ad5b18c h0 h1 h2 h3 h4 h5 h6 v0 v1 1 h1 g0 f3 h2 g1 f4 h3 g2 f5 h4 g3 f6 h5 g4 f7 h6 g5 f8) := hD
  refine lv_aload_n hx hb dX8_fewestByRoom_5 rfl (lv_at hl 0 rfl) ?_
  refine lv_iload_n hx hb dX8_fewestByRoom_6 rfl (lv_at hl 2 rfl) ?_
  refine va_put (D := (dC, dI)) (ci := 8) (v := .int v10) (ty := .int) (C := RX8) (T := TX8) (N := 9) hx hb hts (fun _ h => List.mem_cons_of_mem _ (List.mem_append_right _ h)) tyX8 tyX8_ok nmX8 hown hK hP hD hS 0 rfl rfl 7 (by decide) (hts (.fieldLink RX8 34 "LeftArguments$Rows" "wide" "I") (List.mem_cons_of_mem _ (List.mem_append_left _ (List.mem_of_getElem? (i := 1) rfl)))) (fun _ h9 => h9) rfl (by decide +kernel) rfl rfl (Nat.le_of_ble_eq_true rfl) dX8_fewestByRoom_7 (fun H locs hP hD hS => ?_)
  have hP : va_P (dC, dI) vwCl (wd_1ad5b18c h0 h1 h2 h3 h4 h5 h6 v0 v10 1 h1 g0 f3 h2 g1 f4 h3 g2 f5 h4 g3 f6 h5 g4 f7 h6 g5 f8) H := hP
  have hD : va_D A (wd_1ad5b18c h0 h1 h2 h3 h4 h5 h6 v0 v10 1 h1 g0 f3 h2 g1 f4 h3 g2 f5 h4 g3 f6 h5 g4 f7 h6 g5 f8) := hD
  refine lv_aload_n hx hb dX8_fewestByRoom_10 rfl (lv_at hl 0 rfl) ?_
  refine lv_iload_n hx hb dX8_fewestByRoom_11 rfl (lv_at hl 1 rfl) ?_
  have hPc := hP.sub (ws' := (wd_1ad5b18c h0 h1 h2 h3 h4 h5 h6 v0 v10 1 h1 g0 f3 h2 g1 f4 h3 g2 f5 h4 g3 f6 h5 g4 f7 h6 g5 f8)) [0, 1, 2, 3, 4, 5, 6] rfl
  have hDc := hD.sub (ws' := (wd_1ad5b18c h0 h1 h2 h3 h4 h5 h6 v0 v10 1 h1 g0 f3 h2 g1 f4 h3 g2 f5 h4 g3 f6 h5 g4 f7 h6 g5 f8)) [0, 1, 2, 3, 4, 5, 6] (by decide) rfl
  have hKc := hK.sub (tys' := [(g0, .int), (g1, .int), (g2, .int), (g3, .int), (g4, .int), (g5, .int)]) [0, 1, 2, 3, 4, 5] rfl
  have hFc := va_free (wc := (wd_1ad5b18c h0 h1 h2 h3 h4 h5 h6 v0 v10 1 h1 g0 f3 h2 g1 f4 h3 g2 f5 h4 g3 f6 h5 g4 f7 h6 g5 f8)) hD hS hA [0, 1, 2, 3, 4, 5, 6] rfl
  refine va_calli (va_runV (As := [.int v9]) (rest := []) ⟨hx, hb, hml, hown, hts⟩ (k_X8_fewest l dC dI h0 h1 h2 h3 h4 h5 h6 v0 v10 1 g0 f3 g1 f4 g2 f5 g3 f6 g4 f7 g5 f8 v9 ⟨by decide, by decide⟩ H.size) (cwV 1 hts g_X8_fewestByRoom_0 rfl rfl rfl (by decide +kernel) ⟨Nat.le_of_ble_eq_true rfl, Nat.le_of_ble_eq_true rfl⟩) (pv_PV8 hPc hKc hDc (q0 := 0) rfl) rfl rfl hl.1 rfl (lv_room (Nat.le_of_ble_eq_true rfl)) dX8_fewestByRoom_12 ⟨Nat.le_of_ble_eq_true rfl, Nat.le_of_ble_eq_true rfl⟩) hS (fun q _ h => hFc q h) hFc (fun ra1 u t H1 locs ht hvm hwra1 hB hz1 hk1 hS => ?_)
  obtain ⟨fn2, fn3, fn4, hP1, hK1, hD1⟩ := hB
  rw [ht] at hP1
  obtain ⟨hP2, hD2⟩ := va_join (wr := []) (w1 := (wd_1ad5b18c h0 h1 h2 h3 h4 h5 h6 v0 v10 1 h1 g0 f3 h2 g1 f4 h3 g2 f5 h4 g3 fn2 h5 g4 fn3 h6 g5 fn4)) hP hD [0, 1, 2, 3, 4, 5, 6] [] rfl rfl (by decide) (by decide) hk1 hFc hP1 hD1
  clear hP hD hPc hDc hKc hFc hP1 hK1 hD1 hk1 hz1
  generalize H1 = H at hP2 hS ⊢
  have hP : va_P (dC, dI) vwCl (wd_1ad5b18c h0 h1 h2 h3 h4 h5 h6 v0 v10 1 h1 g0 f3 h2 g1 f4 h3 g2 f5 h4 g3 fn2 h5 g4 fn3 h6 g5 fn4) H := hP2
  have hD : va_D A (wd_1ad5b18c h0 h1 h2 h3 h4 h5 h6 v0 v10 1 h1 g0 f3 h2 g1 f4 h3 g2 f5 h4 g3 fn2 h5 g4 fn3 h6 g5 fn4) := hD2
  clear hP2 hD2
  obtain ⟨wa_ra1, wb_ra1⟩ := hwra1
  have wa_ra1 : -1 ≤ ra1.toInt := wa_ra1
  have wb_ra1 : ra1.toInt ≤ 8 := wb_ra1
  subst hQ
  have hP9 := hP.sub (ws' := (wd_1ad5b18c h0 h1 h2 h3 h4 h5 h6 v0 v10 1 h1 g0 f3 h2 g1 f4 h3 g2 f5 h4 g3 fn2 h5 g4 fn3 h6 g5 fn4)) [0, 1, 2, 3, 4, 5, 6] rfl
  have hD9 := hD.sub (ws' := (wd_1ad5b18c h0 h1 h2 h3 h4 h5 h6 v0 v10 1 h1 g0 f3 h2 g1 f4 h3 g2 f5 h4 g3 fn2 h5 g4 fn3 h6 g5 fn4)) [0, 1, 2, 3, 4, 5, 6] (by decide) rfl
  have hK9 := hK.sub (tys' := []) [] rfl
  exact W.iret (v := ra1) hx hb hr (fun t ht hW => ⟨⟨ra1, (), rfl, ⟨by first | omega | decide, by first | omega | decide⟩, v10, 1, fn2, fn3, fn4, by decide, by decide, by rw [ht]; exact hP9, va_K.moved hW.alike hK9, hD9⟩, hS.F ht⟩) hS.2.2 dX8_fewestByRoom_15
