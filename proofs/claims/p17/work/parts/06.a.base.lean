/-! an array that isn't among the cells and is never written -/
def pv_Xs (t n : Nat) (A : Nat → Prop) (U : State) (H : Heap) : Prop := ∃ f : Nat → Int32, va_X t n f U H ∧ ¬ A t
theorem pv_Xs.narrow {t n : Nat} {A B : Nat → Prop} {U : State} {H : Heap} (h : pv_Xs t n A U H) (hAB : ∀ q, B q → A q) : pv_Xs t n B U H := by
  obtain ⟨f, h2, h3⟩ := h
  exact ⟨f, h2, fun h => h3 (hAB t h)⟩
theorem pv_Xs.kept {t n : Nat} {A : Nat → Prop} {U : State} {H H1 : Heap} (h : pv_Xs t n A U H) (hq : ∀ a : Nat, a < H.size → ¬ A a → H1[a]? = H[a]?) : pv_Xs t n A U H1 := by
  obtain ⟨f, h2, h3⟩ := h
  exact ⟨f, pv_X_kept h2 h3 hq, h3⟩
theorem pv_Xs.moved {t n : Nat} {A : Nat → Prop} {u U : State} {H : Heap} (hvm : u.vm.Alike U.vm) (h : pv_Xs t n A u H) : pv_Xs t n A U H := by
  obtain ⟨f, ⟨scr, g1, g2, g3⟩, h3⟩ := h
  exact ⟨f, ⟨scr, g1, State.isArrayOf_alike hvm g2, g3⟩, h3⟩
