/-! small rows of my own: bounds of constant and enumerated places, the default road of a table -/
theorem pv_c {x : Int32} {n : Nat} (h : decide (¬ (x < 0 ∨ n ≤ x.toNatClampNeg)) = true) : vp_in x n := show ¬ (x < 0 ∨ n ≤ x.toNatClampNeg) from of_decide_eq_true h
theorem pv_nn {x : Int32} (h : 0 ≤ x.toInt) : ¬ x < 0 := fun h1 => by
  have h2 : x.toInt < (0 : Int) := Int32.lt_iff_toInt_lt.mp h1
  omega
theorem pv_enum {P : Int32 → Prop} {x : Int32} {N : Nat} (lo : 0 ≤ x.toInt) (hi : x.toInt < (N : Int)) (h : ∀ j : Fin N, P (nI j.val)) : P x := by
  obtain ⟨j, hj, rfl⟩ := nI_of (pv_nn lo)
  rw [nI_toInt hj] at hi
  exact h ⟨j, by omega⟩
theorem pv_tab {x : Int32} (n : Nat) {hi : Int} (hh : (n : Int) = hi) (h : ∀ j : Nat, j ≤ n → ¬ x = nI j) : x.toInt < 0 ∨ hi < x.toInt := by
  subst hh
  by_cases h0 : x < 0
  · exact Or.inl (Int32.lt_iff_toInt_lt.mp h0)
  · obtain ⟨j, hj, rfl⟩ := nI_of h0
    rw [nI_toInt hj]
    rcases Nat.lt_or_ge n j with q | q
    · exact Or.inr (by omega)
    · exact absurd rfl (h j q)
/-! rows on bits, out of kit/laws/BITS.to-paste -/
def bt (x : Int32) (i : Nat) : Bool := x.toBitVec.getLsbD i
theorem b_ext {x y : Int32} (h : ∀ i, i < 32 → bt x i = bt y i) : x = y := Int32.toBitVec_inj.mp (BitVec.eq_of_getLsbD_eq (fun i hi => h i hi))
theorem b_and (x y : Int32) (i : Nat) : bt (x &&& y) i = (bt x i && bt y i) := by unfold bt; rw [Int32.toBitVec_and, BitVec.getLsbD_and]
theorem b_big {x : Int32} {i : Nat} (h : 32 ≤ i) : bt x i = false := BitVec.getLsbD_of_ge _ _ h
theorem b_255 (i : Nat) : bt 255 i = decide (i < 8) := by
  rcases Nat.lt_or_ge i 32 with h | h
  · exact (by decide +kernel : ∀ i, i < 32 → bt 255 i = decide (i < 8)) i h
  · rw [b_big h, decide_eq_false (by omega)]
theorem s_l : ∀ n, n < 32 → ((nI n &&& 31).toBitVec.smod 32).toNat = n := by decide +kernel
theorem s_u : ∀ n, n < 32 → (((nI n).toUInt32 &&& Int32.toUInt32 31).toBitVec % 32).toNat = n := by decide +kernel
theorem b_ushr (n : Nat) (hn : n < 32) (x : Int32) (i : Nat) : bt ((x.toUInt32 >>> ((nI n).toUInt32 &&& Int32.toUInt32 31)).toInt32) i = bt x (n + i) := by
  show (x.toUInt32 >>> ((nI n).toUInt32 &&& Int32.toUInt32 31)).toBitVec.getLsbD i = x.toUInt32.toBitVec.getLsbD (n + i)
  rw [UInt32.toBitVec_shiftRight]
  show (x.toUInt32.toBitVec >>> (((nI n).toUInt32 &&& Int32.toUInt32 31).toBitVec % 32).toNat).getLsbD i = _
  rw [s_u n hn, BitVec.getLsbD_ushiftRight]
theorem b_sshr (n : Nat) (hn : n < 32) (x : Int32) {i : Nat} (hi : i < 32) : bt (x >>> (nI n &&& 31)) i = if n + i < 32 then bt x (n + i) else bt x 31 := by
  unfold bt
  rw [Int32.toBitVec_shiftRight]
  show (x.toBitVec.sshiftRight ((nI n &&& 31).toBitVec.smod 32).toNat).getLsbD i = _
  rw [s_l n hn, BitVec.getLsbD_sshiftRight, BitVec.msb_eq_getLsbD_last]
  simp [hi]
/-! how many bytes of words aren't 0 -/
def pv_1 (x : Int32) (n : Nat) : Nat := if x = 0 then n else n + 1
theorem pv_1_z {x : Int32} (n : Nat) (h : x = 0) : pv_1 x n = n := if_pos h
theorem pv_1_s {x : Int32} (n : Nat) (h : ¬ x = 0) : pv_1 x n = n + 1 := if_neg h
theorem pv_1_le (x : Int32) (n : Nat) : pv_1 x n ≤ n + 1 := by
  by_cases h : x = 0
  · rw [pv_1_z n h]; omega
  · rw [pv_1_s n h]; exact Nat.le_refl _
def pv_u (k v : Int32) : Int32 := (v.toUInt32 >>> (k.toUInt32 &&& Int32.toUInt32 31)).toInt32 &&& 255
def pv_s (k v : Int32) : Int32 := (v >>> (k &&& 31)) &&& 255
theorem pv_us (n : Nat) (hn : n ≤ 24) (v : Int32) : pv_u (nI n) v = pv_s (nI n) v := by
  refine b_ext (fun i hi => ?_)
  unfold pv_u pv_s
  rw [b_and, b_and, b_ushr n (by omega) v i, b_sshr n (by omega) v hi, b_255]
  rcases Nat.lt_or_ge i 8 with h | h
  · rw [if_pos (by omega)]
  · rw [decide_eq_false (by omega), Bool.and_false, Bool.and_false]
def pv_b4 (v : Int32) (n : Nat) : Nat := pv_1 (pv_u 0 v) (pv_1 (pv_u 8 v) (pv_1 (pv_u 16 v) (pv_1 (pv_u 24 v) n)))
theorem pv_b4_le (v : Int32) (n : Nat) : pv_b4 v n ≤ n + 4 := by
  unfold pv_b4
  have h1 := pv_1_le (pv_u 24 v) n
  have h2 := pv_1_le (pv_u 16 v) (pv_1 (pv_u 24 v) n)
  have h3 := pv_1_le (pv_u 8 v) (pv_1 (pv_u 16 v) (pv_1 (pv_u 24 v) n))
  have h4 := pv_1_le (pv_u 0 v) (pv_1 (pv_u 8 v) (pv_1 (pv_u 16 v) (pv_1 (pv_u 24 v) n)))
  omega
theorem pv_b4_s (v : Int32) (n : Nat) : pv_b4 v n = pv_1 (pv_s 0 v) (pv_1 (pv_s 8 v) (pv_1 (pv_s 16 v) (pv_1 (pv_s 24 v) n))) := by
  have e0 : pv_u 0 v = pv_s 0 v := pv_us 0 (by omega) v
  have e1 : pv_u 8 v = pv_s 8 v := pv_us 8 (by omega) v
  have e2 : pv_u 16 v = pv_s 16 v := pv_us 16 (by omega) v
  have e3 : pv_u 24 v = pv_s 24 v := pv_us 24 (by omega) v
  unfold pv_b4
  rw [e0, e1, e2, e3]
theorem pv_add1 (x : Int32) (n : Nat) : nI n + (if x = 0 then 0 else 1) = nI (pv_1 x n) := by
  by_cases h : x = 0
  · rw [if_pos h, pv_1_z n h]
    exact Int32.add_zero _
  · rw [if_neg h, pv_1_s n h]
    exact nI_1 n
section PVSEL
variable {p : Program} {l : Launch} {e : Env} {R : Room} {s : State} {m : MethodId} {args : Array Value} {below : List Frame} {meth : Method} {c : Code} {H : Heap} {locs : List Loc} {cells slots : Nat} {Q : State → Prop}
variable {cc : ByteArray} {pc : Nat} {ls : Array Slot} {rest : List Value}
/-- x != 0 ? 1 : 0 as one row -/
theorem pv_sel (hexec : p.tables.exec = Jvm.exec) (hb : c.code = cc) {x : Int32} (d1 : decode cc pc = .ok (.ifCond .eq 7, 3)) (d2 : decode cc (pc + 3) = .ok (.iconst 1, 1)) (d3 : decode cc (pc + 3 + 1) = .ok (.goto 4, 3)) (d4 : decode cc (pc + 7) = .ok (.iconst 0, 1))
    (k : W p l e R s m args below meth c H locs cells slots Q (F0 m (pc + 8) ls (.int (if x = 0 then 0 else 1) :: rest))) : W p l e R s m args below meth c H locs cells slots Q (F0 m pc ls (.int x :: rest)) := by
  refine lv_if_eq (tgt := pc + 7) hexec hb d1 (by omega) (fun c => ?_) (fun c => ?_)
  · rw [if_pos c] at k
    exact lv_iconst hexec hb d4 rfl k
  · rw [if_neg c] at k
    exact lv_iconst hexec hb d2 rfl (lv_goto (tgt := pc + 8) hexec hb d3 (by omega) k)
end PVSEL
/-! a static array of ints that stands since before, never written -/
def pv_St (nm : String) (n : Nat) (A : Nat → Prop) (U : State) (H : Heap) : Prop := ∃ (t : Nat) (f : Nat → Int32), va_Z RX6 nm "[I" (.ref t) A U H ∧ va_X t n f U H ∧ ¬ A t
theorem pv_St.narrow {nm : String} {n : Nat} {A B : Nat → Prop} {U : State} {H : Heap} (h : pv_St nm n A U H) (hAB : ∀ q, B q → A q) : pv_St nm n B U H := by
  obtain ⟨t, f, h1, h2, h3⟩ := h
  exact ⟨t, f, h1.narrow hAB, h2, fun h => h3 (hAB t h)⟩
theorem pv_X_kept {t n : Nat} {f : Nat → Int32} {A : Nat → Prop} {U : State} {H H1 : Heap} (h2 : va_X t n f U H) (h3 : ¬ A t) (hq : ∀ a : Nat, a < H.size → ¬ A a → H1[a]? = H[a]?) : va_X t n f U H1 := by
  obtain ⟨scr, g1, g2⟩ := h2
  exact ⟨scr, by rw [hq t (Array.getElem?_eq_some_iff.mp g1).1 h3]; exact g1, g2⟩
theorem pv_St.kept {nm : String} {n : Nat} {A : Nat → Prop} {U : State} {H H1 : Heap} (h : pv_St nm n A U H) (hq : ∀ a : Nat, a < H.size → ¬ A a → H1[a]? = H[a]?) : pv_St nm n A U H1 := by
  obtain ⟨t, f, h1, h2, h3⟩ := h
  exact ⟨t, f, h1.kept hq, pv_X_kept h2 h3 hq, h3⟩
theorem pv_St.moved {nm : String} {n : Nat} {A : Nat → Prop} {u U : State} {H : Heap} (hvm : u.vm.Alike U.vm) (h : pv_St nm n A u H) : pv_St nm n A U H := by
  obtain ⟨t, f, h1, ⟨scr, g1, g2, g3⟩, h3⟩ := h
  exact ⟨t, f, h1.moved hvm, ⟨scr, g1, State.isArrayOf_alike hvm g2, g3⟩, h3⟩
theorem pv_eqi {args : Array Value} {s : State} {t : Term} {z : Int32} (h : (Cond.eq t (.int z)).before args s = true) : t.eval args s none [] s = some (.int z) := by
  cases hv : t.eval args s none [] s with
  | none => simp [Cond.before, Cond.holds, Cond.value, hv] at h
  | some w =>
    have hz : (Term.int z).eval args s none [] s = some (.int z) := rfl
    simp only [Cond.before, Cond.holds, Cond.value, hv, hz] at h
    cases w <;> simp_all
theorem pv_len {args : Array Value} {s : State} {t : Term} {v : Value} {b : Addr} {cell : Cell} (hv : (Term.length t).eval args s none [] s = some v) (ht : t.eval args s none [] s = some (.ref b)) (harr : s.arrayAt? b = some cell) : cell.slots.size < 2 ^ 31 := by
  simp only [Term.eval, ht, harr, Option.bind_eq_bind, Option.bind_some] at hv
  by_cases hlt : cell.slots.size < 2147483648
  · exact hlt
  · simp [hlt] at hv
theorem pv_elem {args : Array Value} {s : State} {t : Term} {v : Value} {b : Addr} {cell : Cell} {j : Nat} (hj : j < 1000) (he : (Term.elem t (.int (nI j))).eval args s none [] s = some v) (ht : t.eval args s none [] s = some (.ref b)) (harr : s.arrayAt? b = some cell) : cell.slots[j]? = some v := by
  have hneg : ¬ (nI j < 0) := nI_pos (by omega)
  have hnat : (nI j).toNatClampNeg = j := nI_clamp (by omega)
  simp only [Term.eval, ht, harr, Option.bind_eq_bind, Option.bind_some, hneg, if_false, hnat] at he
  exact he
theorem pv_Stof {args : Array Value} {s : State} {nm : String} {n : Nat} {A : Nat → Prop} (hn : n < 1000) (hl : (Cond.laysStatic RX6 nm "[I").before args s = true) (hini : (Cond.initialized RX6).before args s = true) (h1 : (Cond.arrayOf (.static RX6 nm "[I") .int).before args s = true)
    (h2 : (Cond.eq (.length (.static RX6 nm "[I")) (.int (nI n))).before args s = true) (h3 : ∀ j, j < n → ∃ z : Int32, (Cond.eq (.elem (.static RX6 nm "[I") (.int (nI j))) (.int z)).before args s = true) (hA : ∀ a : Nat, a < s.heap.size → ¬ A a) : pv_St nm n A s s.heap := by
  have hv := pv_eqi h2
  obtain ⟨b, cell, ht, harr, hz⟩ := Term.length_spec hv
  have hsz31 : cell.slots.size < 2 ^ 31 := pv_len hv ht harr
  have hsz : cell.slots.size = n := by
    have e1 : nI n = nI cell.slots.size := Value.int.inj hz
    exact ((nI_eq (by omega) (by omega)).mp e1).symm
  obtain ⟨hcell, hkn, -, -⟩ := State.arrayAt?_spec harr
  have hof := (Cond.arrayOf_spec h1 ht hcell).1
  have hint : ∀ j, j < n → ∃ x, cell.slots[j]? = some (.int x) := by
    intro j hj
    obtain ⟨z, hz⟩ := h3 j hj
    exact ⟨z, pv_elem (by omega) (pv_eqi hz) ht harr⟩
  refine ⟨b, fun j => match cell.slots[j]? with | some (.int x) => x | _ => 0, va_Zref hl hini ht hA, ⟨cell, hcell, hof, hkn, hsz, fun j hj => ?_⟩, hA b (Array.getElem?_eq_some_iff.mp hcell).1⟩
  obtain ⟨x, hx⟩ := hint j hj
  simp only [hx]
section PVCPY
variable {p : Program} {l : Launch} {e : Env} {R : Room} {s : State} {m : MethodId} {args : Array Value} {below : List Frame} {meth : Method} {c : Code} {H : Heap} {locs : List Loc} {cells slots : Nat} {Q : State → Prop}
variable {cc : ByteArray} {pc : Nat} {ls : Array Slot} {rest : List Value} {D : va_G} {cl : List vw_C} {A : Nat → Prop} {a : Nat} {tys : List (ClassId × FieldType)} {ws : va_W} {H0 : Heap}
/-- System.arraycopy of ints out of an array that isn't among the cells (by the library's Stand.arraycopy, as the kit's own row for two cells) -/
theorem pv_copy (hexec : p.tables.exec = Jvm.exec) (hb : c.code = cc) (hml : c.maxLocals = ls.size) {own : String} {index : Nat} (hown : s.vm.findClass own = some m.cls) (hlink : (Cond.methodLink own index arraycopyName).before args s = true) (hnat : (Cond.native arraycopyName).before args s = true) (hstat : (Cond.static arraycopyName).before args s = true) (hini : (Cond.initialized "java/lang/System").before args s = true)
    (hK : va_K D cl tys s) (hP : va_P D cl ws H) (hD : va_D A ws) (hS : va_S A H0 H locs) (q1 t1 : Nat) {a0 : Nat} {c1 : ClassId} {n0 n1 : Nat} {f g : Nat → Int32} (hX : va_X a0 n0 f s H) (ha1 : ws[q1]? = some (a, .inl (c1, n1, .inl g))) (ht1 : tys[t1]? = some (c1, .int))
    {sp dp n : Int32} (h1 : ¬ sp < 0) (h2 : ¬ dp < 0) (h3 : ¬ n < 0) (h4 : sp.toNatClampNeg + n.toNatClampNeg ≤ n0) (h5 : dp.toNatClampNeg + n.toNatClampNeg ≤ n1)
    (hframes : 1 ≤ R.frames) (hlocals : (rest.map fun v => v.category).sum + (nativeFrameWords "java/lang/System" "arraycopy" 5 + 11) ≤ R.locals) (hdg : decode cc pc = .ok (.invokestatic index, 3))
    (kk : ∀ (H1 : Heap) (locs1 : List Loc) (g1 : Nat → Int32), va_P D cl (ws.set q1 (a, .inl (c1, n1, .inl g1))) H1 → va_D A (ws.set q1 (a, .inl (c1, n1, .inl g1))) → va_S A H0 H1 locs1 → W p l e R s m args below meth c H1 locs1 cells slots Q (F0 m (pc + 3) ls rest)) : W p l e R s m args below meth c H locs cells slots Q (F0 m pc ls (.int n :: .int dp :: .ref a :: .int sp :: .ref a0 :: rest)) := by
  have nn : ∀ z : Int32, ¬ z < 0 → z.toInt = (z.toNatClampNeg : Int) := by
    intro z hz
    have hz0 : (0 : Int) ≤ z.toInt := by
      have := Int32.not_lt.mp hz
      simpa using Int32.le_iff_toInt_le.mp this
    show z.toInt = ((z.toInt.toNat : Nat) : Int)
    omega
  intro T hT X
  have hc1 : H[a]? = some (vp_cell c1 (n1, .inl g)) := hP q1 _ ha1
  obtain ⟨scr, hc0, ⟨hst0, k0, hk0, cm0, hkk0⟩, hkn0, hsz0, hval0⟩ := hX
  have hgd : ∀ i, i < n.toNatClampNeg → scr.slots.getD (sp.toNatClampNeg + i) .null = .int (f (sp.toNatClampNeg + i)) := by
    intro i hi
    rw [Array.getD_eq_getD_getElem?, hval0 _ (by omega)]
    rfl
  obtain ⟨-, k1, hk1, cm1, hkk1⟩ := (hK.2 t1 _ ht1).1 n1 (fun j => .int (g j))
  obtain ⟨vm', X', step⟩ := X.arraycopy hexec hown hlink hnat hstat hini (src := a0) (dst := a) (cs := scr) (cd := vp_cell c1 (n1, .inl g)) (srcPos := sp) (destPos := dp) (n := n) (by rw [hT]; exact hc0) (by rw [hT]; exact hc1)
    hst0 (fun _ h => by cases h) hkn0 (fun h => by cases h) hk0 hk1 hkk0 hkk1 (by simp [refKind]) h1 h2 h3
    (by rw [nn sp h1, nn n h3, hsz0]; omega)
    (by rw [nn dp h2, nn n h3]; show ¬ _ > ((arrV c1 n1 (fun j => .int (g j))).slots.size : Int); rw [arrV_size]; omega)
    (fun vm₁ _ i hi => by
      rw [hgd i hi]
      exact ⟨rfl, trivial⟩)
    (g := F0 m pc ls (.int n :: .int dp :: .ref a :: .int sp :: .ref a0 :: rest)) rfl (by rw [hml]) (rest := rest) rfl (by rw [hb]; exact hdg) hframes (by show 2 * 0 + _ + _ ≤ _; omega)
  have hstr : scr.stretch sp.toNatClampNeg n.toNatClampNeg = (arrV c1 n0 (fun j => .int (f j))).stretch sp.toNatClampNeg n.toNatClampNeg := by
    unfold Cell.stretch
    apply List.map_congr_left
    intro i hi
    have hi' := List.mem_range.mp hi
    rw [hgd i hi', Array.getD_eq_getD_getElem?, arrV_read _ _ (by omega)]
    rfl
  have e1 : copied scr (vp_cell c1 (n1, .inl g)) sp dp n = vp_cell c1 (n1, .inl (va_cpy f g sp.toNatClampNeg dp.toNatClampNeg n.toNatClampNeg)) := by
    show (vp_cell c1 (n1, .inl g)).storeRun dp.toNatClampNeg (scr.stretch sp.toNatClampNeg n.toNatClampNeg) = _
    rw [hstr]
    exact va_copied (fun z => .int z) c1 c1 f g h4
  rw [e1] at X' step
  have hl : a < H.size := (Array.getElem?_eq_some_iff.mp hc1).1
  have hheap : ((T.setVm vm').setCell a (vp_cell c1 (n1, .inl (va_cpy f g sp.toNatClampNeg dp.toNatClampNeg n.toNatClampNeg)))).heap = H.setIfInBounds a (vp_cell c1 (n1, .inl (va_cpy f g sp.toNatClampNeg dp.toNatClampNeg n.toNatClampNeg))) := by rw [← hT]; rfl
  have oq : ∀ q : Nat, q ≠ a → (H.setIfInBounds a (vp_cell c1 (n1, .inl (va_cpy f g sp.toNatClampNeg dp.toNatClampNeg n.toNatClampNeg))))[q]? = H[q]? := fun q hq => by simp [Array.getElem?_setIfInBounds, Ne.symm hq]
  obtain ⟨t, a1, b1⟩ := kk _ _ (va_cpy f g sp.toNatClampNeg dp.toNatClampNeg n.toNatClampNeg) (hP.set hD ha1 (show (H.setIfInBounds a _)[a]? = some _ by simp [Array.getElem?_setIfInBounds, hl]) oq) (hD.set ha1) ⟨by simp; exact hS.1, fun q g1 g2 => by
      rw [oq q (fun e => g2 (by rw [e]; exact hD.2 q1 _ ha1))]
      exact hS.2.1 q g1 g2, fun q hq => by
      rcases List.mem_append.mp hq with h | h
      · exact hS.2.2 q h
      · obtain ⟨z, -, hz⟩ := List.mem_map.mp h
        rw [← hz]
        exact hD.2 q1 _ ha1⟩ _ hheap X'
  exact ⟨t, step t a1, b1⟩
end PVCPY
theorem gwX0 : (wsX00).all goodWord = true := by decide +kernel
theorem gwX1 : (wsX10).all goodWord = true := by decide +kernel
theorem gwX2 : (wsX20).all goodWord = true := by decide +kernel
theorem gwX3 : (wsX30).all goodWord = true := by decide +kernel
theorem gwX4 : (wsX40).all goodWord = true := by decide +kernel
theorem gwX5 : (wsX50).all goodWord = true := by decide +kernel
theorem gwX6 : (wsX60).all goodWord = true := by decide +kernel
theorem gwX7 : (wsX70).all goodWord = true := by decide +kernel
theorem gwX8 : (wsX80).all goodWord = true := by decide +kernel
theorem gwX9 : (wsX90).all goodWord = true := by decide +kernel
theorem gwX10 : (wsX100).all goodWord = true := by decide +kernel
theorem gwX11 : (wsX110).all goodWord = true := by decide +kernel
theorem gwX12 : (wsX120).all goodWord = true := by decide +kernel
/-! ints by their toInt -/
theorem pv_add {t x y : Int32} {a b : Int} (e : t = x + y) (ha : x.toInt = a) (hb : y.toInt = b) (h1 : -2147483648 ≤ a + b) (h2 : a + b ≤ 2147483647) : t.toInt = a + b := by
  subst e; subst ha; subst hb
  rw [Int32.toInt_add]
  exact Int.bmod_eq_of_le (by omega) (by omega)
theorem pv_sub {t x y : Int32} {a b : Int} (e : t = x - y) (ha : x.toInt = a) (hb : y.toInt = b) (h1 : -2147483648 ≤ a - b) (h2 : a - b ≤ 2147483647) : t.toInt = a - b := by
  subst e; subst ha; subst hb
  rw [Int32.toInt_sub]
  exact Int.bmod_eq_of_le (by omega) (by omega)
theorem pv_mul {t x y : Int32} {a b : Int} (e : t = x * y) (ha : x.toInt = a) (hb : y.toInt = b) (h1 : -2147483648 ≤ a * b) (h2 : a * b ≤ 2147483647) : t.toInt = a * b := by
  subst e; subst ha; subst hb
  rw [Int32.toInt_mul]
  exact Int.bmod_eq_of_le (by omega) (by omega)
theorem pv_and0 (x C : Int32) (h : 0 ≤ C.toInt) : 0 ≤ (x &&& C).toInt ∧ (x &&& C).toInt ≤ C.toInt := by
  obtain ⟨c, hc, rfl⟩ := nI_of (pv_nn h)
  have hn : ((x &&& nI c).toBitVec).toNat ≤ c := by
    rw [Int32.toBitVec_and, BitVec.toNat_and]
    refine Nat.le_trans Nat.and_le_right ?_
    rw [pk_tn (by omega)]
    exact Nat.le_refl _
  have e : (x &&& nI c).toInt = (((x &&& nI c).toBitVec).toNat : Int) := BitVec.toInt_eq_toNat_of_lt (by omega)
  rw [e, nI_toInt hc]
  omega
theorem pv_andR {t x C : Int32} {k : Int} (e : t = x &&& C) (h : 0 ≤ C.toInt) (hk : C.toInt = k) : 0 ≤ t.toInt ∧ t.toInt ≤ k := by
  subst e; subst hk
  exact pv_and0 x C h
theorem pv_andL {t x C : Int32} {k : Int} (e : t = C &&& x) (h : 0 ≤ C.toInt) (hk : C.toInt = k) : 0 ≤ t.toInt ∧ t.toInt ≤ k := by
  subst e; subst hk
  rw [Int32.and_comm]
  exact pv_and0 x C h
theorem pv_rem {t x y : Int32} {k : Int} (e : t = x - x / y * y) (h : 0 ≤ x.toInt) (hy : 0 < y.toInt) (hk : y.toInt = k) : 0 ≤ t.toInt ∧ t.toInt < k := by
  subst e; subst hk
  obtain ⟨a, ha, rfl⟩ := nI_of (pv_nn h)
  obtain ⟨d, hd, rfl⟩ := nI_of (pv_nn (Int.le_of_lt hy))
  rw [nI_toInt hd] at hy
  have hd0 : 0 < d := by omega
  have hlt := Nat.mod_lt a hd0
  rw [pk_rem ha hd0 hd, nI_toInt (by omega), nI_toInt hd]
  omega
theorem pv_div {t x y : Int32} (e : t = x / y) (h : 0 ≤ x.toInt) (hy : 0 < y.toInt) : 0 ≤ t.toInt ∧ t.toInt ≤ x.toInt := by
  subst e
  obtain ⟨a, ha, rfl⟩ := nI_of (pv_nn h)
  obtain ⟨d, hd, rfl⟩ := nI_of (pv_nn (Int.le_of_lt hy))
  rw [nI_toInt hd] at hy
  have hd0 : 0 < d := by omega
  have hle := Nat.div_le_self a d
  rw [pk_div ha hd0 hd, nI_toInt (by omega), nI_toInt ha]
  exact ⟨Int.natCast_nonneg _, Int.ofNat_le.mpr hle⟩
theorem pv_bool {v : Int32} (h1 : 0 ≤ v.toInt) (h2 : v.toInt ≤ 1) : v = 0 ∨ v = 1 := by
  obtain ⟨j, hj, rfl⟩ := nI_of (pv_nn h1)
  rw [nI_toInt hj] at h2
  rcases (show j = 0 ∨ j = 1 by omega) with rfl | rfl
  · exact Or.inl rfl
  · exact Or.inr rfl
theorem pv_nz {v : Int32} (h1 : 0 ≤ v.toInt) (h2 : v.toInt ≤ 1) : narrow .boolean (.int v) = .int v := by
  rcases pv_bool h1 h2 with rfl | rfl <;> rfl
theorem pv_fz {v : Int32} (h1 : 0 ≤ v.toInt) (h2 : v.toInt ≤ 1) : fits .boolean (.int v) = true := by
  rcases pv_bool h1 h2 with rfl | rfl <;> rfl
theorem pv_tabL {x : Int32} (lo n : Nat) {hi : Int} (hh : ((lo + n : Nat) : Int) = hi) (h : ∀ j : Nat, j ≤ n → ¬ x = nI (lo + j)) : x.toInt < (lo : Int) ∨ hi < x.toInt := by
  subst hh
  by_cases h0 : x < 0
  · have h1 : x.toInt < (0 : Int) := Int32.lt_iff_toInt_lt.mp h0
    exact Or.inl (by omega)
  · obtain ⟨j, hj, rfl⟩ := nI_of h0
    rw [nI_toInt hj]
    rcases Nat.lt_or_ge j lo with q | q
    · exact Or.inl (by omega)
    · rcases Nat.lt_or_ge (lo + n) j with q2 | q2
      · exact Or.inr (by omega)
      · exact absurd (by rw [show lo + (j - lo) = j by omega]) (h (j - lo) (by omega))
theorem pv_sum {x y : Int32} {a b : Int} {n : Nat} (ha : x.toInt = a) (hb : y.toInt = b) (h1 : 0 ≤ a) (h2 : 0 ≤ b) (h3 : a + b ≤ (n : Int)) : x.toNatClampNeg + y.toNatClampNeg ≤ n := by
  subst ha; subst hb
  show x.toInt.toNat + y.toInt.toNat ≤ n
  omega
theorem pv_max {t x y : Int32} {a b : Int} (e : t = if x < y then y else x) (ha : x.toInt = a) (hb : y.toInt = b) : a ≤ t.toInt ∧ b ≤ t.toInt ∧ (t.toInt = a ∨ t.toInt = b) := by
  subst ha; subst hb
  by_cases h : x < y
  · rw [if_pos h] at e
    have h1 := Int32.lt_iff_toInt_lt.mp h
    subst e
    exact ⟨by omega, by omega, Or.inr rfl⟩
  · rw [if_neg h] at e
    have h1 : ¬ x.toInt < y.toInt := fun q => h (Int32.lt_iff_toInt_lt.mpr q)
    subst e
    exact ⟨by omega, by omega, Or.inl rfl⟩
theorem pv_min {t x y : Int32} {a b : Int} (e : t = if y < x then y else x) (ha : x.toInt = a) (hb : y.toInt = b) : t.toInt ≤ a ∧ t.toInt ≤ b ∧ (t.toInt = a ∨ t.toInt = b) := by
  subst ha; subst hb
  by_cases h : y < x
  · rw [if_pos h] at e
    have h1 := Int32.lt_iff_toInt_lt.mp h
    subst e
    exact ⟨by omega, by omega, Or.inr rfl⟩
  · rw [if_neg h] at e
    have h1 : ¬ y.toInt < x.toInt := fun q => h (Int32.lt_iff_toInt_lt.mpr q)
    subst e
    exact ⟨by omega, by omega, Or.inl rfl⟩
theorem pv_lne {t : Int32} {x : Int64} (e : t = lg_cmp x 0) (h : ¬ t = 0) : ¬ x = 0 := fun q => h (by rw [e, q]; rfl)
theorem pv_td (a k : Int) (hk : 0 < k) : (0 ≤ a → a.tdiv k = a / k) ∧ (a < 0 → a.tdiv k = -((-a) / k)) := by
  refine ⟨fun h => Int.tdiv_eq_ediv_of_nonneg h, fun h => ?_⟩
  have h2 : (-(-a)).tdiv k = -((-a).tdiv k) := Int.neg_tdiv (-a) k
  rw [Int.neg_neg] at h2
  rw [h2, Int.tdiv_eq_ediv_of_nonneg (by omega)]
theorem pv_i2l {y : Int64} {x : Int32} (e : y = x.toInt64) (h : 1 ≤ x.toInt) : ¬ y = 0 := fun q => by
  have h1 : x.toInt64.toInt = 0 := by rw [← e, q]; rfl
  rw [Int32.toInt_toInt64] at h1
  omega
theorem pv_xor0 (x C : Int32) (hC : 0 ≤ C.toInt) : (x ^^^ C).toInt < 0 ↔ x.toInt < 0 := by
  have m : ∀ z : Int32, z.toInt < 0 ↔ z.toBitVec.msb = true := fun z => by
    show z.toBitVec.toInt < 0 ↔ _
    rw [BitVec.msb_eq_toInt]
    simp
  have hc : C.toBitVec.msb = false := by
    rcases hm : C.toBitVec.msb with _ | _
    · rfl
    · exact absurd ((m C).mpr hm) (by omega)
  rw [m, m, Int32.toBitVec_xor, BitVec.msb_xor, hc, Bool.xor_false]
theorem pv_xorR {t x C : Int32} (e : t = x ^^^ C) (hC : 0 ≤ C.toInt) : t.toInt < 0 ↔ x.toInt < 0 := by
  subst e; exact pv_xor0 x C hC
theorem pv_xorL {t x C : Int32} (e : t = C ^^^ x) (hC : 0 ≤ C.toInt) : t.toInt < 0 ↔ x.toInt < 0 := by
  subst e; rw [Int32.xor_comm]; exact pv_xor0 x C hC
theorem pv_updI {f : Nat → Int32} {k : Nat} {x : Int32} {a b : Int} (h : ∀ j, a ≤ (f j).toInt ∧ (f j).toInt ≤ b) (h1 : a ≤ x.toInt) (h2 : x.toInt ≤ b) : ∀ j, a ≤ (upd f k x j).toInt ∧ (upd f k x j).toInt ≤ b := by
  intro j
  by_cases e : j = k
  · subst e; rw [pk_us]; exact ⟨h1, h2⟩
  · rw [pk_un e]; exact h j
theorem pv_cpyI {f g : Nat → Int32} {sp dp n : Nat} {a b a' b' : Int} (hf : ∀ j, a ≤ (f j).toInt ∧ (f j).toInt ≤ b) (hg : ∀ j, a ≤ (g j).toInt ∧ (g j).toInt ≤ b) : ∀ j, a ≤ (va_cpy f g sp dp n j).toInt ∧ (va_cpy f g sp dp n j).toInt ≤ b := by
  intro j
  by_cases h : dp ≤ j ∧ j < dp + n
  · rw [pk_cpy_in h.1 h.2]; exact hf _
  · rw [pk_cpy_out (by omega)]; exact hg j
/-- as Met.ofW, where the class has members of the machine's own but this method is none of them (java/lang/Math) -/
theorem pv_ofWF {l : Launch} {y : MethodName} {ws ws' : List Cond} {rm : Room} {Pc : Array Value → State → Prop} {Qc : Array Value → State → Outcome → State → Prop} {mc ms : Nat} {free : Addr → Prop} {cc : ByteArray} {maxL : Nat} {ret : Option FieldType}
    (hy : plainFor y = true) (hw : ws = Cond.code y cc maxL ret :: ws')
    (body : ∀ p e s m args below meth c s₁, BodyLoose p l y (headSpec ws rm) cc maxL ret e s m args below meth c s₁ → c.maxLocals = maxL → Pc args s →
      W p l e (headSpec ws rm).room s m args below meth c s.heap [] 0 0 (MQ below Qc args s mc ms free) (entryFrame m args maxL)) : Met l y ws rm Pc Qc mc ms free := by
  refine MetFree.of_bodySF (code := cc) (maxLocals := maxL) (ret := ret) hy ?_ ?_
  · intro args s m h hn
    obtain ⟨meth, c, h1, h2, h3, h4, h5, h6, -, -⟩ := Cond.code_spec hn (atoms_spec (ws := ws) h _ (by rw [hw]; exact List.mem_cons_self))
    exact ⟨meth, c, h1, h2, h3, h4, h5, h6⟩
  · intro p e s m args below meth c s₁ B hml hP _
    have hh0 : s₁.heap = s.heap := by rw [B.state]; rfl
    obtain ⟨t, a1, o, b1, b2, b3⟩ := body p e s m args below meth c s₁ B hml hP s₁ hh0 (Stand.of_body B)
    exact ⟨t, o, a1, b1, b2, ⟨b3.1, b3.2⟩⟩
section PVALD
variable {p : Program} {l : Launch} {e : Env} {R : Room} {s : State} {m : MethodId} {args : Array Value} {below : List Frame} {meth : Method} {c : Code} {H : Heap} {locs : List Loc} {cells slots : Nat} {Q : State → Prop}
variable {cc : ByteArray} {pc : Nat} {ls : Array Slot} {rest : List Value} {D : va_G} {cl : List vw_C} {a : Nat} {tys : List (ClassId × FieldType)} {ws : va_W}
/-- aaload where the elements are of any type of references (an array of arrays) -/
theorem pv_ald (hexec : p.tables.exec = Jvm.exec) (hb : c.code = cc) (hK : va_K D cl tys s) (hP : va_P D cl ws H) (q0 t0 : Nat) {cA : ClassId} {ty : FieldType} {n : Nat} {f : Nat → Option Nat} (ha : ws[q0]? = some (a, .inl (cA, n, .inr (.inr (.inr (.inr f)))))) (ht : tys[t0]? = some (cA, ty)) (hty : ty.isReference = true) {i : Int32} (hin : vp_in i n) (hdg : decode cc pc = .ok (.aaload, 1))
    (kk : W p l e R s m args below meth c H locs cells slots Q (F0 m (pc + 1) ls (va_rf (f i.toNatClampNeg) :: rest))) : W p l e R s m args below meth c H locs cells slots Q (F0 m pc ls (.int i :: .ref a :: rest)) := by
  have hlt : i.toNatClampNeg < n := Nat.not_le.mp fun q => hin (Or.inr q)
  exact W.aald (v := va_rf (f i.toNatClampNeg)) (ty := ty) hexec hb (hP q0 _ ha) ((hK.2 t0 _ ht).1 n (fun j => va_rf (f j))) hty (fun q => by cases q) (by show ¬ (i < 0 ∨ (arrV _ _ _).slots.size ≤ _); rw [arrV_size]; exact hin) (by show (arrV _ _ _).slots[_]? = _; rw [arrV_read _ _ hlt]) rfl rfl hdg kk
end PVALD
/-! the constant Strings of the class: OfficeReader's two, LawReader's -/
def pv_len3 : List Nat := [4, 5, 6]
def pv_byt3 : List (List Int32) := [[119, 110, 102, 107], [122, 97, 99, 104, 108], [122, 97, 111, 110, 100, 116]]
theorem pv_dv2 {t x y : Int32} (e : t = x / y) (hy : y.toInt = 2) : -1073741824 ≤ t.toInt ∧ t.toInt ≤ 1073741824 := by
  have hx1 := Int32.le_toInt x
  have hx2 := Int32.toInt_lt x
  obtain ⟨p, q⟩ := pv_td x.toInt 2 (by decide)
  have e1 : t.toInt = x.toInt.tdiv 2 := by
    subst e
    rw [Int32.toInt_div, hy]
    rcases Int.lt_or_le x.toInt 0 with h | h
    · have q := q h; exact Int.bmod_eq_of_le (by omega) (by omega)
    · have p := p h; exact Int.bmod_eq_of_le (by omega) (by omega)
  rcases Int.lt_or_le x.toInt 0 with h | h
  · have q := q h; omega
  · have p := p h; omega
theorem pv_rm2 {t x y : Int32} (e : t = x - x / y * y) (hy : y.toInt = 2) : -2 < t.toInt ∧ t.toInt < 2 ∧ (0 ≤ x.toInt → 0 ≤ t.toInt) ∧ (x.toInt < 0 → t.toInt ≤ 0) := by
  have hx1 := Int32.le_toInt x
  have hx2 := Int32.toInt_lt x
  obtain ⟨p, q⟩ := pv_td x.toInt 2 (by decide)
  have e1 : (x / y).toInt = x.toInt.tdiv 2 := by
    rw [Int32.toInt_div, hy]
    rcases Int.lt_or_le x.toInt 0 with h | h
    · have q := q h; exact Int.bmod_eq_of_le (by omega) (by omega)
    · have p := p h; exact Int.bmod_eq_of_le (by omega) (by omega)
  have e2 : (x / y * y).toInt = x.toInt.tdiv 2 * 2 := by
    rw [Int32.toInt_mul, e1, hy]
    rcases Int.lt_or_le x.toInt 0 with h | h
    · have q := q h; exact Int.bmod_eq_of_le (by omega) (by omega)
    · have p := p h; exact Int.bmod_eq_of_le (by omega) (by omega)
  have e3 : t.toInt = x.toInt - x.toInt.tdiv 2 * 2 := by
    subst e
    rw [Int32.toInt_sub, e2]
    rcases Int.lt_or_le x.toInt 0 with h | h
    · have q := q h; exact Int.bmod_eq_of_le (by omega) (by omega)
    · have p := p h; exact Int.bmod_eq_of_le (by omega) (by omega)
  rcases Int.lt_or_le x.toInt 0 with h | h
  · have q := q h; omega
  · have p := p h; omega
theorem pv_dv16 {t x y : Int32} (e : t = x / y) (hy : y.toInt = 16) : -134217728 ≤ t.toInt ∧ t.toInt ≤ 134217728 := by
  have hx1 := Int32.le_toInt x
  have hx2 := Int32.toInt_lt x
  obtain ⟨p, q⟩ := pv_td x.toInt 16 (by decide)
  have e1 : t.toInt = x.toInt.tdiv 16 := by
    subst e
    rw [Int32.toInt_div, hy]
    rcases Int.lt_or_le x.toInt 0 with h | h
    · have q := q h; exact Int.bmod_eq_of_le (by omega) (by omega)
    · have p := p h; exact Int.bmod_eq_of_le (by omega) (by omega)
  rcases Int.lt_or_le x.toInt 0 with h | h
  · have q := q h; omega
  · have p := p h; omega
theorem pv_rm16 {t x y : Int32} (e : t = x - x / y * y) (hy : y.toInt = 16) : -16 < t.toInt ∧ t.toInt < 16 ∧ (0 ≤ x.toInt → 0 ≤ t.toInt) ∧ (x.toInt < 0 → t.toInt ≤ 0) := by
  have hx1 := Int32.le_toInt x
  have hx2 := Int32.toInt_lt x
  obtain ⟨p, q⟩ := pv_td x.toInt 16 (by decide)
  have e1 : (x / y).toInt = x.toInt.tdiv 16 := by
    rw [Int32.toInt_div, hy]
    rcases Int.lt_or_le x.toInt 0 with h | h
    · have q := q h; exact Int.bmod_eq_of_le (by omega) (by omega)
    · have p := p h; exact Int.bmod_eq_of_le (by omega) (by omega)
  have e2 : (x / y * y).toInt = x.toInt.tdiv 16 * 16 := by
    rw [Int32.toInt_mul, e1, hy]
    rcases Int.lt_or_le x.toInt 0 with h | h
    · have q := q h; exact Int.bmod_eq_of_le (by omega) (by omega)
    · have p := p h; exact Int.bmod_eq_of_le (by omega) (by omega)
  have e3 : t.toInt = x.toInt - x.toInt.tdiv 16 * 16 := by
    subst e
    rw [Int32.toInt_sub, e2]
    rcases Int.lt_or_le x.toInt 0 with h | h
    · have q := q h; exact Int.bmod_eq_of_le (by omega) (by omega)
    · have p := p h; exact Int.bmod_eq_of_le (by omega) (by omega)
  rcases Int.lt_or_le x.toInt 0 with h | h
  · have q := q h; omega
  · have p := p h; omega
theorem pv_dv100 {t x y : Int32} (e : t = x / y) (hy : y.toInt = 100) : -21474836 ≤ t.toInt ∧ t.toInt ≤ 21474836 := by
  have hx1 := Int32.le_toInt x
  have hx2 := Int32.toInt_lt x
  obtain ⟨p, q⟩ := pv_td x.toInt 100 (by decide)
  have e1 : t.toInt = x.toInt.tdiv 100 := by
    subst e
    rw [Int32.toInt_div, hy]
    rcases Int.lt_or_le x.toInt 0 with h | h
    · have q := q h; exact Int.bmod_eq_of_le (by omega) (by omega)
    · have p := p h; exact Int.bmod_eq_of_le (by omega) (by omega)
  rcases Int.lt_or_le x.toInt 0 with h | h
  · have q := q h; omega
  · have p := p h; omega
theorem pv_rm100 {t x y : Int32} (e : t = x - x / y * y) (hy : y.toInt = 100) : -100 < t.toInt ∧ t.toInt < 100 ∧ (0 ≤ x.toInt → 0 ≤ t.toInt) ∧ (x.toInt < 0 → t.toInt ≤ 0) := by
  have hx1 := Int32.le_toInt x
  have hx2 := Int32.toInt_lt x
  obtain ⟨p, q⟩ := pv_td x.toInt 100 (by decide)
  have e1 : (x / y).toInt = x.toInt.tdiv 100 := by
    rw [Int32.toInt_div, hy]
    rcases Int.lt_or_le x.toInt 0 with h | h
    · have q := q h; exact Int.bmod_eq_of_le (by omega) (by omega)
    · have p := p h; exact Int.bmod_eq_of_le (by omega) (by omega)
  have e2 : (x / y * y).toInt = x.toInt.tdiv 100 * 100 := by
    rw [Int32.toInt_mul, e1, hy]
    rcases Int.lt_or_le x.toInt 0 with h | h
    · have q := q h; exact Int.bmod_eq_of_le (by omega) (by omega)
    · have p := p h; exact Int.bmod_eq_of_le (by omega) (by omega)
  have e3 : t.toInt = x.toInt - x.toInt.tdiv 100 * 100 := by
    subst e
    rw [Int32.toInt_sub, e2]
    rcases Int.lt_or_le x.toInt 0 with h | h
    · have q := q h; exact Int.bmod_eq_of_le (by omega) (by omega)
    · have p := p h; exact Int.bmod_eq_of_le (by omega) (by omega)
  rcases Int.lt_or_le x.toInt 0 with h | h
  · have q := q h; omega
  · have p := p h; omega
/-! an array that isn't among the cells and is never written -/
def pv_Xs (t n : Nat) (A : Nat → Prop) (U : State) (H : Heap) : Prop := ∃ f : Nat → Int32, va_X t n f U H ∧ ¬ A t
theorem pv_Xs.narrow {t n : Nat} {A B : Nat → Prop} {U : State} {H : Heap} (h : pv_Xs t n A U H) (hAB : ∀ q, B q → A q) : pv_Xs t n B U H := by
  obtain ⟨f, h2, h3⟩ := h
  exact ⟨f, h2, fun h => h3 (hAB t h)⟩
theorem pv_Xs.kept {t n : Nat} {A : Nat → Prop} {U : State} {H H1 : Heap} (h : pv_Xs t n A U H) (hq : ∀ a : Nat, a < H.size → ¬ A a → H1[a]? = H[a]?) : pv_Xs t n A U H1 := by
  obtain ⟨f, h2, h3⟩ := h
  exact ⟨f, pv_X_kept h2 h3 hq, h3⟩
theorem pv_Xs.moved {t n : Nat} {A : Nat → Prop} {u U : State} {H : Heap} (hvm : u.vm.Alike U.vm) (h : pv_Xs t n A u H) : pv_Xs t n A U H := by
  obtain ⟨f, ⟨scr, g1, g2, g3⟩, h3⟩ := h
  exact ⟨f, ⟨scr, g1, State.isArrayOf_alike hvm g2, g3⟩, h3⟩
theorem pv_bl {al : List Value} {sz : Nat} {D : va_G} {ws : va_W} {tys : List (ClassId × FieldType)} : FrameBlind (va_Pc al (fun U => U.heap.size = sz ∧ va_P D vwCl ws U.heap ∧ va_K D vwCl tys U ∧ va_D (fun _ => True) ws)) := fun a U g mk q => by
  obtain ⟨q0, q1, qP, qK, qD⟩ := q
  exact ⟨q0, q1, qP, va_K.moved (u := U) (U := U.calling g mk a) (Vm.Alike.refl U.vm) qK, qD⟩
theorem pv_PS {s : State} {H : Heap} {D : va_G} {ws : va_W} {tys : List (ClassId × FieldType)} {A : Nat → Prop} {As : List Value} (hP : va_P D vwCl ws H) (hK : va_K D vwCl tys s) (hD : va_D A ws) : PreS s H (va_Pc As (fun U => U.heap.size = H.size ∧ va_P D vwCl ws U.heap ∧ va_K D vwCl tys U ∧ va_D (fun _ => True) ws)) As := ⟨pv_bl, fun U hU hW => ⟨rfl, by rw [hU], by rw [hU]; exact hP, va_K.moved hW.alike hK, hD.weaken (fun _ _ _ _ => trivial)⟩⟩
theorem pv_rc0 {s : State} {H : Heap} {D : va_G} {a q0 : Nat} {fs : List Value} {ws : va_W} {tys : List (ClassId × FieldType)} (hK : va_K D vwCl tys s) (hP : va_P D vwCl ws H) (he : ws[q0]? = some (a, .inr (0, fs))) : ∃ cell : Cell, H[a]? = some cell ∧ cell.vm.isStatics = false ∧ s.vm.findClass RX0 = some cell.cls := va_recv hK hP (ci := 0) (q := (RX0, TX0, 3)) rfl he
theorem pv_PV0 {s : State} {H : Heap} {D : va_G} {ws : va_W} {tys : List (ClassId × FieldType)} {A : Nat → Prop} {As : List Value} {b q0 : Nat} {fs : List Value} (hP : va_P D vwCl ws H) (hK : va_K D vwCl tys s) (hD : va_D A ws) (he : ws[q0]? = some (b, .inr (0, fs))) : PreV s H RX0 b (va_Pc (Value.ref b :: As) (fun U => U.heap.size = H.size ∧ va_P D vwCl ws U.heap ∧ va_K D vwCl tys U ∧ va_D (fun _ => True) ws)) As := ⟨pv_bl, pv_rc0 hK hP he, fun U hU hW => ⟨rfl, by rw [hU], by rw [hU]; exact hP, va_K.moved hW.alike hK, hD.weaken (fun _ _ _ _ => trivial)⟩⟩
theorem pv_rc1 {s : State} {H : Heap} {D : va_G} {a q0 : Nat} {fs : List Value} {ws : va_W} {tys : List (ClassId × FieldType)} (hK : va_K D vwCl tys s) (hP : va_P D vwCl ws H) (he : ws[q0]? = some (a, .inr (1, fs))) : ∃ cell : Cell, H[a]? = some cell ∧ cell.vm.isStatics = false ∧ s.vm.findClass RX1 = some cell.cls := va_recv hK hP (ci := 1) (q := (RX1, TX1, 1)) rfl he
theorem pv_PV1 {s : State} {H : Heap} {D : va_G} {ws : va_W} {tys : List (ClassId × FieldType)} {A : Nat → Prop} {As : List Value} {b q0 : Nat} {fs : List Value} (hP : va_P D vwCl ws H) (hK : va_K D vwCl tys s) (hD : va_D A ws) (he : ws[q0]? = some (b, .inr (1, fs))) : PreV s H RX1 b (va_Pc (Value.ref b :: As) (fun U => U.heap.size = H.size ∧ va_P D vwCl ws U.heap ∧ va_K D vwCl tys U ∧ va_D (fun _ => True) ws)) As := ⟨pv_bl, pv_rc1 hK hP he, fun U hU hW => ⟨rfl, by rw [hU], by rw [hU]; exact hP, va_K.moved hW.alike hK, hD.weaken (fun _ _ _ _ => trivial)⟩⟩
theorem pv_rc2 {s : State} {H : Heap} {D : va_G} {a q0 : Nat} {fs : List Value} {ws : va_W} {tys : List (ClassId × FieldType)} (hK : va_K D vwCl tys s) (hP : va_P D vwCl ws H) (he : ws[q0]? = some (a, .inr (2, fs))) : ∃ cell : Cell, H[a]? = some cell ∧ cell.vm.isStatics = false ∧ s.vm.findClass RX2 = some cell.cls := va_recv hK hP (ci := 2) (q := (RX2, TX2, 9)) rfl he
theorem pv_PV2 {s : State} {H : Heap} {D : va_G} {ws : va_W} {tys : List (ClassId × FieldType)} {A : Nat → Prop} {As : List Value} {b q0 : Nat} {fs : List Value} (hP : va_P D vwCl ws H) (hK : va_K D vwCl tys s) (hD : va_D A ws) (he : ws[q0]? = some (b, .inr (2, fs))) : PreV s H RX2 b (va_Pc (Value.ref b :: As) (fun U => U.heap.size = H.size ∧ va_P D vwCl ws U.heap ∧ va_K D vwCl tys U ∧ va_D (fun _ => True) ws)) As := ⟨pv_bl, pv_rc2 hK hP he, fun U hU hW => ⟨rfl, by rw [hU], by rw [hU]; exact hP, va_K.moved hW.alike hK, hD.weaken (fun _ _ _ _ => trivial)⟩⟩
theorem pv_rc3 {s : State} {H : Heap} {D : va_G} {a q0 : Nat} {fs : List Value} {ws : va_W} {tys : List (ClassId × FieldType)} (hK : va_K D vwCl tys s) (hP : va_P D vwCl ws H) (he : ws[q0]? = some (a, .inr (3, fs))) : ∃ cell : Cell, H[a]? = some cell ∧ cell.vm.isStatics = false ∧ s.vm.findClass RX3 = some cell.cls := va_recv hK hP (ci := 3) (q := (RX3, TX3, 3)) rfl he
theorem pv_PV3 {s : State} {H : Heap} {D : va_G} {ws : va_W} {tys : List (ClassId × FieldType)} {A : Nat → Prop} {As : List Value} {b q0 : Nat} {fs : List Value} (hP : va_P D vwCl ws H) (hK : va_K D vwCl tys s) (hD : va_D A ws) (he : ws[q0]? = some (b, .inr (3, fs))) : PreV s H RX3 b (va_Pc (Value.ref b :: As) (fun U => U.heap.size = H.size ∧ va_P D vwCl ws U.heap ∧ va_K D vwCl tys U ∧ va_D (fun _ => True) ws)) As := ⟨pv_bl, pv_rc3 hK hP he, fun U hU hW => ⟨rfl, by rw [hU], by rw [hU]; exact hP, va_K.moved hW.alike hK, hD.weaken (fun _ _ _ _ => trivial)⟩⟩
theorem pv_rc4 {s : State} {H : Heap} {D : va_G} {a q0 : Nat} {fs : List Value} {ws : va_W} {tys : List (ClassId × FieldType)} (hK : va_K D vwCl tys s) (hP : va_P D vwCl ws H) (he : ws[q0]? = some (a, .inr (4, fs))) : ∃ cell : Cell, H[a]? = some cell ∧ cell.vm.isStatics = false ∧ s.vm.findClass RX4 = some cell.cls := va_recv hK hP (ci := 4) (q := (RX4, TX4, 6)) rfl he
theorem pv_PV4 {s : State} {H : Heap} {D : va_G} {ws : va_W} {tys : List (ClassId × FieldType)} {A : Nat → Prop} {As : List Value} {b q0 : Nat} {fs : List Value} (hP : va_P D vwCl ws H) (hK : va_K D vwCl tys s) (hD : va_D A ws) (he : ws[q0]? = some (b, .inr (4, fs))) : PreV s H RX4 b (va_Pc (Value.ref b :: As) (fun U => U.heap.size = H.size ∧ va_P D vwCl ws U.heap ∧ va_K D vwCl tys U ∧ va_D (fun _ => True) ws)) As := ⟨pv_bl, pv_rc4 hK hP he, fun U hU hW => ⟨rfl, by rw [hU], by rw [hU]; exact hP, va_K.moved hW.alike hK, hD.weaken (fun _ _ _ _ => trivial)⟩⟩
theorem pv_rc5 {s : State} {H : Heap} {D : va_G} {a q0 : Nat} {fs : List Value} {ws : va_W} {tys : List (ClassId × FieldType)} (hK : va_K D vwCl tys s) (hP : va_P D vwCl ws H) (he : ws[q0]? = some (a, .inr (5, fs))) : ∃ cell : Cell, H[a]? = some cell ∧ cell.vm.isStatics = false ∧ s.vm.findClass RX5 = some cell.cls := va_recv hK hP (ci := 5) (q := (RX5, TX5, 4)) rfl he
theorem pv_PV5 {s : State} {H : Heap} {D : va_G} {ws : va_W} {tys : List (ClassId × FieldType)} {A : Nat → Prop} {As : List Value} {b q0 : Nat} {fs : List Value} (hP : va_P D vwCl ws H) (hK : va_K D vwCl tys s) (hD : va_D A ws) (he : ws[q0]? = some (b, .inr (5, fs))) : PreV s H RX5 b (va_Pc (Value.ref b :: As) (fun U => U.heap.size = H.size ∧ va_P D vwCl ws U.heap ∧ va_K D vwCl tys U ∧ va_D (fun _ => True) ws)) As := ⟨pv_bl, pv_rc5 hK hP he, fun U hU hW => ⟨rfl, by rw [hU], by rw [hU]; exact hP, va_K.moved hW.alike hK, hD.weaken (fun _ _ _ _ => trivial)⟩⟩
theorem pv_rc6 {s : State} {H : Heap} {D : va_G} {a q0 : Nat} {fs : List Value} {ws : va_W} {tys : List (ClassId × FieldType)} (hK : va_K D vwCl tys s) (hP : va_P D vwCl ws H) (he : ws[q0]? = some (a, .inr (6, fs))) : ∃ cell : Cell, H[a]? = some cell ∧ cell.vm.isStatics = false ∧ s.vm.findClass RX6 = some cell.cls := va_recv hK hP (ci := 6) (q := (RX6, TX6, 5)) rfl he
theorem pv_PV6 {s : State} {H : Heap} {D : va_G} {ws : va_W} {tys : List (ClassId × FieldType)} {A : Nat → Prop} {As : List Value} {b q0 : Nat} {fs : List Value} (hP : va_P D vwCl ws H) (hK : va_K D vwCl tys s) (hD : va_D A ws) (he : ws[q0]? = some (b, .inr (6, fs))) : PreV s H RX6 b (va_Pc (Value.ref b :: As) (fun U => U.heap.size = H.size ∧ va_P D vwCl ws U.heap ∧ va_K D vwCl tys U ∧ va_D (fun _ => True) ws)) As := ⟨pv_bl, pv_rc6 hK hP he, fun U hU hW => ⟨rfl, by rw [hU], by rw [hU]; exact hP, va_K.moved hW.alike hK, hD.weaken (fun _ _ _ _ => trivial)⟩⟩
theorem pv_rc7 {s : State} {H : Heap} {D : va_G} {a q0 : Nat} {fs : List Value} {ws : va_W} {tys : List (ClassId × FieldType)} (hK : va_K D vwCl tys s) (hP : va_P D vwCl ws H) (he : ws[q0]? = some (a, .inr (7, fs))) : ∃ cell : Cell, H[a]? = some cell ∧ cell.vm.isStatics = false ∧ s.vm.findClass RX7 = some cell.cls := va_recv hK hP (ci := 7) (q := (RX7, TX7, 4)) rfl he
theorem pv_PV7 {s : State} {H : Heap} {D : va_G} {ws : va_W} {tys : List (ClassId × FieldType)} {A : Nat → Prop} {As : List Value} {b q0 : Nat} {fs : List Value} (hP : va_P D vwCl ws H) (hK : va_K D vwCl tys s) (hD : va_D A ws) (he : ws[q0]? = some (b, .inr (7, fs))) : PreV s H RX7 b (va_Pc (Value.ref b :: As) (fun U => U.heap.size = H.size ∧ va_P D vwCl ws U.heap ∧ va_K D vwCl tys U ∧ va_D (fun _ => True) ws)) As := ⟨pv_bl, pv_rc7 hK hP he, fun U hU hW => ⟨rfl, by rw [hU], by rw [hU]; exact hP, va_K.moved hW.alike hK, hD.weaken (fun _ _ _ _ => trivial)⟩⟩
theorem pv_rc8 {s : State} {H : Heap} {D : va_G} {a q0 : Nat} {fs : List Value} {ws : va_W} {tys : List (ClassId × FieldType)} (hK : va_K D vwCl tys s) (hP : va_P D vwCl ws H) (he : ws[q0]? = some (a, .inr (8, fs))) : ∃ cell : Cell, H[a]? = some cell ∧ cell.vm.isStatics = false ∧ s.vm.findClass RX8 = some cell.cls := va_recv hK hP (ci := 8) (q := (RX8, TX8, 9)) rfl he
theorem pv_PV8 {s : State} {H : Heap} {D : va_G} {ws : va_W} {tys : List (ClassId × FieldType)} {A : Nat → Prop} {As : List Value} {b q0 : Nat} {fs : List Value} (hP : va_P D vwCl ws H) (hK : va_K D vwCl tys s) (hD : va_D A ws) (he : ws[q0]? = some (b, .inr (8, fs))) : PreV s H RX8 b (va_Pc (Value.ref b :: As) (fun U => U.heap.size = H.size ∧ va_P D vwCl ws U.heap ∧ va_K D vwCl tys U ∧ va_D (fun _ => True) ws)) As := ⟨pv_bl, pv_rc8 hK hP he, fun U hU hW => ⟨rfl, by rw [hU], by rw [hU]; exact hP, va_K.moved hW.alike hK, hD.weaken (fun _ _ _ _ => trivial)⟩⟩
theorem pv_rc9 {s : State} {H : Heap} {D : va_G} {a q0 : Nat} {fs : List Value} {ws : va_W} {tys : List (ClassId × FieldType)} (hK : va_K D vwCl tys s) (hP : va_P D vwCl ws H) (he : ws[q0]? = some (a, .inr (9, fs))) : ∃ cell : Cell, H[a]? = some cell ∧ cell.vm.isStatics = false ∧ s.vm.findClass RX9 = some cell.cls := va_recv hK hP (ci := 9) (q := (RX9, TX9, 9)) rfl he
theorem pv_PV9 {s : State} {H : Heap} {D : va_G} {ws : va_W} {tys : List (ClassId × FieldType)} {A : Nat → Prop} {As : List Value} {b q0 : Nat} {fs : List Value} (hP : va_P D vwCl ws H) (hK : va_K D vwCl tys s) (hD : va_D A ws) (he : ws[q0]? = some (b, .inr (9, fs))) : PreV s H RX9 b (va_Pc (Value.ref b :: As) (fun U => U.heap.size = H.size ∧ va_P D vwCl ws U.heap ∧ va_K D vwCl tys U ∧ va_D (fun _ => True) ws)) As := ⟨pv_bl, pv_rc9 hK hP he, fun U hU hW => ⟨rfl, by rw [hU], by rw [hU]; exact hP, va_K.moved hW.alike hK, hD.weaken (fun _ _ _ _ => trivial)⟩⟩
theorem pv_rc10 {s : State} {H : Heap} {D : va_G} {a q0 : Nat} {fs : List Value} {ws : va_W} {tys : List (ClassId × FieldType)} (hK : va_K D vwCl tys s) (hP : va_P D vwCl ws H) (he : ws[q0]? = some (a, .inr (10, fs))) : ∃ cell : Cell, H[a]? = some cell ∧ cell.vm.isStatics = false ∧ s.vm.findClass RX10 = some cell.cls := va_recv hK hP (ci := 10) (q := (RX10, TX10, 5)) rfl he
theorem pv_PV10 {s : State} {H : Heap} {D : va_G} {ws : va_W} {tys : List (ClassId × FieldType)} {A : Nat → Prop} {As : List Value} {b q0 : Nat} {fs : List Value} (hP : va_P D vwCl ws H) (hK : va_K D vwCl tys s) (hD : va_D A ws) (he : ws[q0]? = some (b, .inr (10, fs))) : PreV s H RX10 b (va_Pc (Value.ref b :: As) (fun U => U.heap.size = H.size ∧ va_P D vwCl ws U.heap ∧ va_K D vwCl tys U ∧ va_D (fun _ => True) ws)) As := ⟨pv_bl, pv_rc10 hK hP he, fun U hU hW => ⟨rfl, by rw [hU], by rw [hU]; exact hP, va_K.moved hW.alike hK, hD.weaken (fun _ _ _ _ => trivial)⟩⟩
theorem pv_rc11 {s : State} {H : Heap} {D : va_G} {a q0 : Nat} {fs : List Value} {ws : va_W} {tys : List (ClassId × FieldType)} (hK : va_K D vwCl tys s) (hP : va_P D vwCl ws H) (he : ws[q0]? = some (a, .inr (11, fs))) : ∃ cell : Cell, H[a]? = some cell ∧ cell.vm.isStatics = false ∧ s.vm.findClass RX11 = some cell.cls := va_recv hK hP (ci := 11) (q := (RX11, TX11, 17)) rfl he
theorem pv_PV11 {s : State} {H : Heap} {D : va_G} {ws : va_W} {tys : List (ClassId × FieldType)} {A : Nat → Prop} {As : List Value} {b q0 : Nat} {fs : List Value} (hP : va_P D vwCl ws H) (hK : va_K D vwCl tys s) (hD : va_D A ws) (he : ws[q0]? = some (b, .inr (11, fs))) : PreV s H RX11 b (va_Pc (Value.ref b :: As) (fun U => U.heap.size = H.size ∧ va_P D vwCl ws U.heap ∧ va_K D vwCl tys U ∧ va_D (fun _ => True) ws)) As := ⟨pv_bl, pv_rc11 hK hP he, fun U hU hW => ⟨rfl, by rw [hU], by rw [hU]; exact hP, va_K.moved hW.alike hK, hD.weaken (fun _ _ _ _ => trivial)⟩⟩
theorem pv_rc12 {s : State} {H : Heap} {D : va_G} {a q0 : Nat} {fs : List Value} {ws : va_W} {tys : List (ClassId × FieldType)} (hK : va_K D vwCl tys s) (hP : va_P D vwCl ws H) (he : ws[q0]? = some (a, .inr (12, fs))) : ∃ cell : Cell, H[a]? = some cell ∧ cell.vm.isStatics = false ∧ s.vm.findClass RX12 = some cell.cls := va_recv hK hP (ci := 12) (q := (RX12, TX12, 48)) rfl he
theorem pv_PV12 {s : State} {H : Heap} {D : va_G} {ws : va_W} {tys : List (ClassId × FieldType)} {A : Nat → Prop} {As : List Value} {b q0 : Nat} {fs : List Value} (hP : va_P D vwCl ws H) (hK : va_K D vwCl tys s) (hD : va_D A ws) (he : ws[q0]? = some (b, .inr (12, fs))) : PreV s H RX12 b (va_Pc (Value.ref b :: As) (fun U => U.heap.size = H.size ∧ va_P D vwCl ws U.heap ∧ va_K D vwCl tys U ∧ va_D (fun _ => True) ws)) As := ⟨pv_bl, pv_rc12 hK hP he, fun U hU hW => ⟨rfl, by rw [hU], by rw [hU]; exact hP, va_K.moved hW.alike hK, hD.weaken (fun _ _ _ _ => trivial)⟩⟩
theorem pv_cs {r k : Int32} {c : Int} (hc : k.toInt = c) (h1 : c ≤ r.toInt) (h2 : r.toInt ≤ c) : r = k := Int32.toInt_inj.mp (by omega)
