theorem pv_Svof {args : Array Value} {s : State} {nm : String} {n : Nat} {f : Nat → Int32} {A : Nat → Prop} (hn : n < 1000) (hl : (Cond.laysStatic RX6 nm "[I").before args s = true) (hini : (Cond.initialized RX6).before args s = true) (h1 : (Cond.arrayOf (.static RX6 nm "[I") .int).before args s = true)
    (h2 : (Cond.eq (.length (.static RX6 nm "[I")) (.int (nI n))).before args s = true) (h3 : ∀ j, j < n → (Cond.eq (.elem (.static RX6 nm "[I") (.int (nI j))) (.int (f j))).before args s = true) (hA : ∀ a : Nat, a < s.heap.size → ¬ A a) : pv_Sv nm n f A s s.heap := by
  have hv := pv_eqi h2
  obtain ⟨b, cell, ht, harr, hz⟩ := Term.length_spec hv
  have hsz31 : cell.slots.size < 2 ^ 31 := pv_len hv ht harr
  have hsz : cell.slots.size = n := by
    have e1 : nI n = nI cell.slots.size := Value.int.inj hz
    exact ((nI_eq (by omega) (by omega)).mp e1).symm
  obtain ⟨hcell, hkn, -, -⟩ := State.arrayAt?_spec harr
  have hof := (Cond.arrayOf_spec h1 ht hcell).1
  exact ⟨b, va_Zref hl hini ht hA, ⟨cell, hcell, hof, hkn, hsz, fun j hj => pv_elem (by omega) (pv_eqi (h3 j hj)) ht harr⟩, hA b (Array.getElem?_eq_some_iff.mp hcell).1⟩
