/-! the words of 'throw new NoSuchElementException()' -/
def wsXT0 : List Cond := (vx_at0 RX11 174 "java/util/NoSuchElementException" ["java/lang/RuntimeException", "java/lang/Exception"]).filter goodWord
theorem gwXT : (wsXT0).all goodWord = true := by decide +kernel
theorem pv_ng : ∀ w ∈ (vx_at0 RX11 174 "java/util/NoSuchElementException" ["java/lang/RuntimeException", "java/lang/Exception"]).filter (fun w => !goodWord w), w ∈ [Cond.castable "java/util/NoSuchElementException" "java/util/NoSuchElementException", Cond.declares (Bundle.init0 "java/lang/RuntimeException"), Cond.declares (Bundle.init0 "java/lang/Exception"), Cond.declares (Bundle.init0 Bundle.tN)] := by decide +kernel
theorem pv_ot : ∀ w ∈ Cond.classLink RX11 172 "java/util/NoSuchElementException" :: Cond.initialized "java/util/NoSuchElementException" :: vx_at0 RX11 174 "java/util/NoSuchElementException" ["java/lang/RuntimeException", "java/lang/Exception"], vx_ot w = true := by decide +kernel
/-! new int[4][256] with its rows as cells -/
section PVMNA
variable {p : Program} {l : Launch} {e : Env} {R : Room} {s : State} {m : MethodId} {args : Array Value} {below : List Frame} {meth : Method} {c : Code} {H : Heap} {locs : List Loc} {cells slots : Nat} {Q : State → Prop}
variable {cc : ByteArray} {pc : Nat} {ls : Array Slot} {rest : List Value} {D : va_G} {cl : List vw_C} {A : Nat → Prop} {a : Nat} {tys : List (ClassId × FieldType)} {ws : va_W} {H0 : Heap}
theorem pv_rows4 {f : Nat → va_E} {r : Nat → Nat} {x : va_E} : va_pl ([] ++ (List.range 4).map r) (vr_up f ((List.range 4).map r) x) = [(r 0, x), (r 1, x), (r 2, x), (r 3, x)] := by
  have e : (List.range 4).map r = [r 0, r 1, r 2, r 3] := rfl
  rw [e]
  show [(r 0, vr_up f [r 0, r 1, r 2, r 3] x (r 0)), (r 1, vr_up f [r 0, r 1, r 2, r 3] x (r 1)), (r 2, vr_up f [r 0, r 1, r 2, r 3] x (r 2)), (r 3, vr_up f [r 0, r 1, r 2, r 3] x (r 3))] = _
  rw [vr_up_in (by simp), vr_up_in (by simp), vr_up_in (by simp), vr_up_in (by simp)]
theorem pv_fn4 {r : Nat → Nat} : (fun i => if i < 4 then some (r i) else none) = va_up (va_up (va_up (va_up (fun _ => none) 0 (some (r 0))) 1 (some (r 1))) 2 (some (r 2))) 3 (some (r 3)) := by
  funext i
  rcases (show i = 0 ∨ i = 1 ∨ i = 2 ∨ i = 3 ∨ 4 ≤ i by omega) with rfl | rfl | rfl | rfl | h
  · rfl
  · rfl
  · rfl
  · rfl
  · rw [if_neg (by omega), va_up_ne _ _ (by omega), va_up_ne _ _ (by omega), va_up_ne _ _ (by omega), va_up_ne _ _ (by omega)]
set_option maxRecDepth 100000 in
theorem pv_mna4 (hexec : p.tables.exec = Jvm.exec) (hb : c.code = cc) {own : String} {index : Nat} (hown : s.vm.findClass own = some m.cls) (hclink : (Cond.classLink own index ("[" ++ (FieldType.array .int).toString)).before args s = true) (hover : va_AOA .int s) (harr : (Cond.arrayClass .int).before args s = true)
    (hK : va_K D cl tys s) (hP : va_P D cl ws H) (hD : va_D A ws) (hS : va_S A H0 H locs) (hA : ∀ q, H0.size ≤ q → A q) (hcells : cells + (1 + 4) ≤ R.cells) (hslots : slots + (4 + 4 * 256) ≤ R.slots) (hdg : decode cc pc = .ok (.multianewarray index 2, 4))
    (kk : ∀ (q a0 a1 a2 a3 : Nat) (cA cy : ClassId) (H1 : Heap), va_K D cl (tys ++ [(cA, .array .int), (cy, .int)]) s → va_P D cl (ws ++ [(q, .inl (cA, 4, .inr (.inr (.inr (.inr (va_up (va_up (va_up (va_up (fun _ => none) 0 (some a0)) 1 (some a1)) 2 (some a2)) 3 (some a3))))))), (a0, .inl (cy, 256, .inl (fun _ => 0))), (a1, .inl (cy, 256, .inl (fun _ => 0))), (a2, .inl (cy, 256, .inl (fun _ => 0))), (a3, .inl (cy, 256, .inl (fun _ => 0)))]) H1 → va_D A (ws ++ [(q, .inl (cA, 4, .inr (.inr (.inr (.inr (va_up (va_up (va_up (va_up (fun _ => none) 0 (some a0)) 1 (some a1)) 2 (some a2)) 3 (some a3))))))), (a0, .inl (cy, 256, .inl (fun _ => 0))), (a1, .inl (cy, 256, .inl (fun _ => 0))), (a2, .inl (cy, 256, .inl (fun _ => 0))), (a3, .inl (cy, 256, .inl (fun _ => 0)))]) → va_S A H0 H1 locs →
      W p l e R s m args below meth c H1 locs (cells + 1 + 4) (slots + 4 + 4 * 256) Q (F0 m (pc + 4) ls (.ref q :: rest))) : W p l e R s m args below meth c H locs cells slots Q (F0 m pc ls (.int 256 :: .int 4 :: rest)) := by
  obtain ⟨cy, ky, comp, h1, h2, h3⟩ := Cond.arrayClass_spec harr
  have e0 : ∀ f : Nat → va_E, ws ++ va_pl [] f = ws := fun f => List.append_nil ws
  refine va_mna (X := ws) (L := []) (f := fun _ => .inr (0, [])) (ty := .int) (cy := cy) (N' := 4) (K' := 256) (z := (256, .inl (fun _ => 0))) hexec hb hown hclink hover harr h1 hK (by rw [e0]; exact hP) (by rw [e0]; exact hD) hS hA (by decide) (by decide) (by decide) (by decide) (by decide) (by decide) (by decide) (by decide) (by decide) hcells hslots (fun c => rfl) hdg (fun q r cA H1 _ _ hK hP hD hS => ?_)
  rw [pv_rows4, pv_fn4, List.append_assoc] at hP hD
  refine kk q (r 0) (r 1) (r 2) (r 3) cA cy H1 ⟨hK.1, fun k x hx => ?_⟩ hP hD hS
  have e2 : tys ++ [(cA, FieldType.array .int), (cy, .int)] = (tys ++ [(cA, .array .int)]) ++ [(cy, .int)] := by rw [List.append_assoc]; rfl
  rw [e2] at hx
  by_cases hl : k < (tys ++ [(cA, FieldType.array .int)]).length
  · rw [List.getElem?_append_left hl] at hx
    exact hK.2 k x hx
  · rw [List.getElem?_append_right (by omega)] at hx
    have hz : k - (tys ++ [(cA, FieldType.array .int)]).length < 1 := (List.getElem?_eq_some_iff.mp hx).1
    rw [show k - (tys ++ [(cA, FieldType.array .int)]).length = 0 by omega] at hx
    cases hx
    exact ⟨fun n z => ⟨fun k h => (by cases h), ky, h2, comp, h3⟩, h1⟩
end PVMNA
/-! all is 0 at first -/
theorem pm_z.iv {a b : Int} (h1 : a ≤ 0) (h2 : 0 ≤ b) : ∀ j : Nat, a ≤ ((fun _ : Nat => (0 : Int32)) j).toInt ∧ ((fun _ : Nat => (0 : Int32)) j).toInt ≤ b := fun _ => by
  show a ≤ ((0 : Int32)).toInt ∧ ((0 : Int32)).toInt ≤ b
  rw [show ((0 : Int32)).toInt = 0 by decide]
  exact ⟨h1, h2⟩
theorem pm_z.nw : pm_NW (fun _ => 0) := pm_zr.nw (n := 247) (fun _ _ => rfl) (Nat.le_refl _)
theorem pm_z.kp : pm_KP (fun _ => 0) := fun _ _ => pm_z.nw
theorem pm_z.as : pm_AS (fun _ => 0) := fun _ _ => pm_z.nw.low
theorem pm_z.ru : pm_RU (fun _ => 0) := by
  show (0 ≤ ((0 : Int32)).toInt ∧ ((0 : Int32)).toInt ≤ 5) ∧ 0 ≤ ((0 : Int32)).toInt
  decide
theorem pm_z.laws {c v cl tf sf st : Nat → Int32} : pm_Laws 0 c v cl tf sf st := fun m h1 h2 => by
  rw [show ((0 : Int32)).toInt = 0 by decide] at h2
  omega
