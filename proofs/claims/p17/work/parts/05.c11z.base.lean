theorem pm_cn.bd {F : Int32 → Int32} {n : Int} {k : Nat} (h : n = pm_cn F k) : 0 ≤ n ∧ n ≤ (k : Int) := by
  subst h
  induction k with
  | zero => exact ⟨Int.le_refl _, Int.le_refl _⟩
  | succ k ih =>
    show 0 ≤ pm_cn F k + (if F (nI k) = 0 then 0 else 1) ∧ pm_cn F k + (if F (nI k) = 0 then 0 else 1) ≤ ((k + 1 : Nat) : Int)
    split <;> omega
