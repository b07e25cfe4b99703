theorem pv_dv4 {t x y : Int32} (e : t = x / y) (hy : y.toInt = 4) : -536870912 ≤ t.toInt ∧ t.toInt ≤ 536870912 := by
  have hx1 := Int32.le_toInt x
  have hx2 := Int32.toInt_lt x
  obtain ⟨p, q⟩ := pv_td x.toInt 4 (by decide)
  have e1 : t.toInt = x.toInt.tdiv 4 := by
    subst e
    rw [Int32.toInt_div, hy]
    rcases Int.lt_or_le x.toInt 0 with h | h
    · have q := q h; exact Int.bmod_eq_of_le (by omega) (by omega)
    · have p := p h; exact Int.bmod_eq_of_le (by omega) (by omega)
  rcases Int.lt_or_le x.toInt 0 with h | h
  · have q := q h; omega
  · have p := p h; omega
theorem pv_rm4 {t x y : Int32} (e : t = x - x / y * y) (hy : y.toInt = 4) : -4 < t.toInt ∧ t.toInt < 4 ∧ (0 ≤ x.toInt → 0 ≤ t.toInt) ∧ (x.toInt < 0 → t.toInt ≤ 0) := by
  have hx1 := Int32.le_toInt x
  have hx2 := Int32.toInt_lt x
  obtain ⟨p, q⟩ := pv_td x.toInt 4 (by decide)
  have e1 : (x / y).toInt = x.toInt.tdiv 4 := by
    rw [Int32.toInt_div, hy]
    rcases Int.lt_or_le x.toInt 0 with h | h
    · have q := q h; exact Int.bmod_eq_of_le (by omega) (by omega)
    · have p := p h; exact Int.bmod_eq_of_le (by omega) (by omega)
  have e2 : (x / y * y).toInt = x.toInt.tdiv 4 * 4 := by
    rw [Int32.toInt_mul, e1, hy]
    rcases Int.lt_or_le x.toInt 0 with h | h
    · have q := q h; exact Int.bmod_eq_of_le (by omega) (by omega)
    · have p := p h; exact Int.bmod_eq_of_le (by omega) (by omega)
  have e3 : t.toInt = x.toInt - x.toInt.tdiv 4 * 4 := by
    subst e
    rw [Int32.toInt_sub, e2]
    rcases Int.lt_or_le x.toInt 0 with h | h
    · have q := q h; exact Int.bmod_eq_of_le (by omega) (by omega)
    · have p := p h; exact Int.bmod_eq_of_le (by omega) (by omega)
  rcases Int.lt_or_le x.toInt 0 with h | h
  · have q := q h; omega
  · have p := p h; omega
/-! the reference's row 'now' -/
def pm_ANY (_ : Nat → Int32) : Prop := True
def pm_NW0 (f : Nat → Int32) : Prop := (∀ b : Nat, b < 8 → 0 ≤ (f (8 * b)).toInt ∧ (f (8 * b)).toInt ≤ 99 ∧ 0 ≤ (f (8 * b + 4)).toInt ∧ (f (8 * b + 4)).toInt ≤ 1) ∧ 0 ≤ (f 66).toInt ∧ (f 66).toInt ≤ 60
def pm_NW (f : Nat → Int32) : Prop := pm_NW0 f ∧ ∀ b : Nat, b < 8 → f (8 * b + 7) = 1 → 1 ≤ (f (8 * b)).toInt
def pm_NWB (b : Int32) (f : Nat → Int32) : Prop := pm_NW f ∧ 1 ≤ (f (8 * b.toInt.toNat)).toInt
theorem pm_ix {i : Int32} {z : Int} {n : Nat} (e : i.toInt = z) (h : z = (n : Int)) : i.toNatClampNeg = n := by
  show i.toInt.toNat = n
  omega
theorem pm_NW0.sz {f : Nat → Int32} (h : pm_NW0 f) {i : Int32} {b : Int} (h1 : 0 ≤ b) (h2 : b ≤ 7) (e : i.toInt = 8 * b) : 0 ≤ (f i.toNatClampNeg).toInt ∧ (f i.toNatClampNeg).toInt ≤ 99 := by
  have h3 := h.1 b.toNat (by omega)
  rw [pm_ix (n := 8 * b.toNat) e (by omega)]
  exact ⟨h3.1, h3.2.1⟩
theorem pm_NW0.la {f : Nat → Int32} (h : pm_NW0 f) {i : Int32} {b : Int} (h1 : 0 ≤ b) (h2 : b ≤ 7) (e : i.toInt = 8 * b + 4) : 0 ≤ (f i.toNatClampNeg).toInt ∧ (f i.toNatClampNeg).toInt ≤ 1 := by
  have h3 := h.1 b.toNat (by omega)
  rw [pm_ix (n := 8 * b.toNat + 4) e (by omega)]
  exact ⟨h3.2.2.1, h3.2.2.2⟩
theorem pm_NW0.lg {f : Nat → Int32} (h : pm_NW0 f) {i : Int32} (e : i.toInt = 66) : 0 ≤ (f i.toNatClampNeg).toInt ∧ (f i.toNatClampNeg).toInt ≤ 60 := by
  rw [pm_ix (n := 66) e (by omega)]
  exact h.2
theorem pm_uq {f : Nat → Int32} {i : Int32} {v : Int32} {n : Nat} (h0 : 0 ≤ i.toInt) : (i.toInt = (n : Int) ∧ upd f i.toNatClampNeg v n = v) ∨ (¬ i.toInt = (n : Int) ∧ upd f i.toNatClampNeg v n = f n) := by
  by_cases h : i.toInt = (n : Int)
  · exact Or.inl ⟨h, by rw [pm_ix (n := n) h rfl, pk_us]⟩
  · refine Or.inr ⟨h, pk_un (fun q => h ?_)⟩
    rw [q]
    show i.toInt = ((i.toInt.toNat : Nat) : Int)
    omega
theorem pm_NW0.st {f : Nat → Int32} (h : pm_NW0 f) {i v : Int32} {z y : Int} (ei : i.toInt = z) (ev : v.toInt = y) (h0 : 0 ≤ z) (c : ∀ b : Int, 0 ≤ b → b ≤ 7 → (z = 8 * b → 0 ≤ y ∧ y ≤ 99) ∧ (z = 8 * b + 4 → 0 ≤ y ∧ y ≤ 1)) (c6 : z = 66 → 0 ≤ y ∧ y ≤ 60) : pm_NW0 (upd f i.toNatClampNeg v) := by
  subst ei; subst ev
  refine ⟨fun b hb => ?_, ?_⟩
  · have h3 := h.1 b hb
    have c1 := c b (by omega) (by omega)
    rcases pm_uq (f := f) (v := v) (n := 8 * b) h0 with ⟨q1, q2⟩ | ⟨q1, q2⟩ <;> rcases pm_uq (f := f) (v := v) (n := 8 * b + 4) h0 with ⟨q3, q4⟩ | ⟨q3, q4⟩ <;> rw [q2, q4] <;> refine ⟨?_, ?_, ?_, ?_⟩ <;> omega
  · rcases pm_uq (f := f) (v := v) (n := 66) h0 with ⟨q1, q2⟩ | ⟨q1, q2⟩ <;> rw [q2]
    · exact c6 (by omega)
    · exact h.2
theorem pm_NW.st {f : Nat → Int32} (h : pm_NW f) {i v : Int32} {z y : Int} (ei : i.toInt = z) (ev : v.toInt = y) (h0 : 0 ≤ z) (c : ∀ b : Int, 0 ≤ b → b ≤ 7 → (z = 8 * b → 0 ≤ y ∧ y ≤ 99) ∧ (z = 8 * b + 4 → 0 ≤ y ∧ y ≤ 1)) (c6 : z = 66 → 0 ≤ y ∧ y ≤ 60) (c7 : ∀ b : Int, 0 ≤ b → b ≤ 7 → (z = 8 * b → 1 ≤ y) ∧ (z = 8 * b + 7 → ¬ y = 1)) : pm_NW (upd f i.toNatClampNeg v) := by
  refine ⟨h.1.st ei ev h0 c c6, fun b hb => ?_⟩
  subst ei; subst ev
  have c1 := c7 b (by omega) (by omega)
  have h3 := h.2 b hb
  rcases pm_uq (f := f) (v := v) (n := 8 * b + 7) h0 with ⟨q1, q2⟩ | ⟨q1, q2⟩ <;> rcases pm_uq (f := f) (v := v) (n := 8 * b) h0 with ⟨q3, q4⟩ | ⟨q3, q4⟩ <;> rw [q2, q4]
  · omega
  · intro hv
    exact absurd (by rw [hv]; rfl) (c1.2 (by omega))
  · exact fun _ => c1.1 (by omega)
  · exact h3
theorem pm_NW.mk {f : Nat → Int32} (h : pm_NW f) {i v b : Int32} {y : Int} (h1 : 0 ≤ b.toInt) (h2 : b.toInt ≤ 7) (ei : i.toInt = 8 * b.toInt) (ev : v.toInt = y) (c1 : 1 ≤ y) (c2 : y ≤ 99) : pm_NWB b (upd f i.toNatClampNeg v) := by
  refine ⟨h.st ei ev (by omega) (fun _ _ _ => ⟨fun _ => ⟨by omega, by omega⟩, fun _ => ⟨by omega, by omega⟩⟩) (fun _ => ⟨by omega, by omega⟩) (fun _ _ _ => ⟨fun _ => by omega, fun _ => by omega⟩), ?_⟩
  rw [pm_ix (n := 8 * b.toInt.toNat) ei (by omega), pk_us, ev]
  exact c1
theorem pm_NWB.st {f : Nat → Int32} {b : Int32} (h : pm_NWB b f) {i v : Int32} {z y : Int} (h1 : 0 ≤ b.toInt) (h2 : b.toInt ≤ 7) (ei : i.toInt = z) (ev : v.toInt = y) (h0 : 0 ≤ z) (c : ∀ b : Int, 0 ≤ b → b ≤ 7 → (z = 8 * b → 0 ≤ y ∧ y ≤ 99) ∧ (z = 8 * b + 4 → 0 ≤ y ∧ y ≤ 1)) (c6 : z = 66 → 0 ≤ y ∧ y ≤ 60) (c7 : ∀ b : Int, 0 ≤ b → b ≤ 7 → (z = 8 * b → 1 ≤ y) ∧ (z = 8 * b + 7 → ¬ y = 1)) : pm_NWB b (upd f i.toNatClampNeg v) := by
  refine ⟨h.1.st ei ev h0 c c6 c7, ?_⟩
  subst ei; subst ev
  rcases pm_uq (f := f) (v := v) (n := 8 * b.toInt.toNat) h0 with ⟨q1, q2⟩ | ⟨q1, q2⟩ <;> rw [q2]
  · exact (c7 b.toInt (by omega) (by omega)).1 (by omega)
  · exact h.2
theorem pm_NWB.on {f : Nat → Int32} {b : Int32} (h : pm_NWB b f) {i v : Int32} (h1 : 0 ≤ b.toInt) (h2 : b.toInt ≤ 7) (ei : i.toInt = 8 * b.toInt + 7) : pm_NW (upd f i.toNatClampNeg v) := by
  refine ⟨h.1.1.st (y := v.toInt) ei rfl (by omega) (fun _ _ _ => ⟨fun _ => ⟨by omega, by omega⟩, fun _ => ⟨by omega, by omega⟩⟩) (fun _ => ⟨by omega, by omega⟩), fun d hd => ?_⟩
  have h3 := h.1.2 d hd
  rcases pm_uq (f := f) (v := v) (n := 8 * d) (i := i) (by omega) with ⟨q3, q4⟩ | ⟨q3, q4⟩ <;> rw [q4]
  · omega
  · rcases pm_uq (f := f) (v := v) (n := 8 * d + 7) (i := i) (by omega) with ⟨q1, q2⟩ | ⟨q1, q2⟩ <;> rw [q2]
    · intro _
      have : d = b.toInt.toNat := by omega
      rw [this]
      exact h.2
    · exact h3
theorem pm_i8 {t b k : Int32} {y z : Int} (e : t = 8 * b + k) (hb : b.toInt = z) (hk : k.toInt = y) (h1 : 0 ≤ z) (h2 : z ≤ 7) (h3 : 0 ≤ y) (h4 : y ≤ 7) : t.toInt = 8 * z + y := by
  have e1 : ((8 : Int32) * b).toInt = 8 * z := pv_mul rfl (by decide) hb (by omega) (by omega)
  exact pv_add e e1 hk (by omega) (by omega)
/-! which bag lies where -/
def pm_at (f : Nat → Int32) (h : Int32) (b : Nat) : Prop := f (8 * b + 7) = 1 ∧ f (8 * b + 3) = h
def pm_on (f : Nat → Int32) (h : Int32) : Prop := ∃ b : Nat, b < 8 ∧ pm_at f h b
def pm_I (b k : Int32) : Nat := Int32.toNatClampNeg (8 * b + k)
theorem pm_I_eq {b k : Int32} {y : Nat} (hk : k.toInt = (y : Int)) (hy : y ≤ 7) (h1 : 0 ≤ b.toInt) (h2 : b.toInt ≤ 7) : pm_I b k = 8 * b.toInt.toNat + y := by
  have h3 := pm_i8 (t := 8 * b + k) rfl rfl hk h1 h2 (by omega) (by omega)
  exact pm_ix h3 (by omega)
theorem pm_or0 {a b : Int} {q : Prop} (h : a = 0 ∨ q) (e : b = a) : b = 0 ∨ q := h.imp (fun z => e.trans z) id
theorem pm_eq1 {a b c : Int32} (h : a = b) (h2 : a = c) : b = c := h.symm.trans h2
theorem pm_ne1 {a b c : Int32} (h : a = b) (h2 : ¬ a = c) : ¬ b = c := fun q => h2 (h.trans q)
theorem pm_on.mk {f : Nat → Int32} {b h r : Int32} (ht : f (pm_I b 7) = 1) (hr : r = f (pm_I b 3)) (hc : r = h) (h1 : 0 ≤ b.toInt) (h2 : b.toInt ≤ 7) : pm_on f h := by
  refine ⟨b.toInt.toNat, by omega, ?_, ?_⟩
  · rw [← pm_I_eq (k := 7) (y := 7) (by decide) (by decide) h1 h2]; exact ht
  · rw [← pm_I_eq (k := 3) (y := 3) (by decide) (by decide) h1 h2, ← hr]; exact hc
def pm_TS (f : Nat → Int32) (n : Nat) : Prop := ∀ j : Nat, j < n → f (8 * j + 7) = 1 → 1 ≤ (f (8 * j)).toInt
theorem pm_TS.zero {f : Nat → Int32} {n : Nat} (h : n = 0) : pm_TS f n := fun j hj => by omega
theorem pm_TS.all {f : Nat → Int32} {n : Nat} (h : pm_TS f n) (hn : 8 ≤ n) (h0 : pm_NW0 f) : pm_NW f := ⟨h0, fun b hb => h b (by omega)⟩
theorem pm_TS.skip {f : Nat → Int32} {b : Int32} {n : Nat} (h : pm_TS f b.toInt.toNat) (h1 : 0 ≤ b.toInt) (h2 : b.toInt ≤ 7) (hn : n = b.toInt.toNat + 1) (c : ¬ f (pm_I b 7) = 1) : pm_TS f n := by
  intro j hj
  rw [pm_I_eq (k := 7) (y := 7) (by decide) (by decide) h1 h2] at c
  by_cases e : j = b.toInt.toNat
  · subst e; exact fun q => absurd q c
  · exact h j (by omega)
theorem pm_TS.full {f : Nat → Int32} {b r : Int32} {n : Nat} (h : pm_TS f b.toInt.toNat) (h1 : 0 ≤ b.toInt) (h2 : b.toInt ≤ 7) (hn : n = b.toInt.toNat + 1) (hr : r = f (pm_I b 0)) (c : 1 ≤ r.toInt) : pm_TS f n := by
  intro j hj
  rw [pm_I_eq (k := 0) (y := 0) (by decide) (by decide) h1 h2] at hr
  by_cases e : j = b.toInt.toNat
  · subst e; exact fun _ => by rw [← show r = f (8 * b.toInt.toNat) from hr]; exact c
  · exact h j (by omega)
theorem pm_TS.off {f g : Nat → Int32} {b i : Int32} {n : Nat} (h : pm_TS f b.toInt.toNat) (h1 : 0 ≤ b.toInt) (h2 : b.toInt ≤ 7) (hn : n = b.toInt.toNat + 1) (hg : g = upd f i.toNatClampNeg 0) (ei : i.toInt = 8 * b.toInt + 7) : pm_TS g n := by
  subst hg
  intro j hj
  rcases pm_uq (f := f) (v := 0) (n := 8 * j) (i := i) (by omega) with ⟨q3, q4⟩ | ⟨q3, q4⟩ <;> rw [q4]
  · omega
  · rcases pm_uq (f := f) (v := 0) (n := 8 * j + 7) (i := i) (by omega) with ⟨q1, q2⟩ | ⟨q1, q2⟩ <;> rw [q2]
    · exact fun q => absurd q (by decide)
    · exact h j (by omega)
/-! the largest on a shelf -/
def pm_LG (f : Nat → Int32) (h best : Int32) (n : Nat) : Prop := (best.toInt = -1 ∧ ∀ j : Nat, j < n → ¬ pm_at f h j) ∨ (0 ≤ best.toInt ∧ best.toInt ≤ 7 ∧ pm_at f h best.toInt.toNat)
theorem pm_LG.zero {f : Nat → Int32} {h best : Int32} {n : Nat} (e : best.toInt = -1) (hn : n = 0) : pm_LG f h best n := Or.inl ⟨e, fun j hj => by omega⟩
theorem pm_LG.no {f : Nat → Int32} {h best b : Int32} {n : Nat} (g : pm_LG f h best b.toInt.toNat) (h1 : 0 ≤ b.toInt) (h2 : b.toInt ≤ 7) (hn : n = b.toInt.toNat + 1) (c : ¬ f (pm_I b 7) = 1) : pm_LG f h best n := by
  rw [pm_I_eq (k := 7) (y := 7) (by decide) (by decide) h1 h2] at c
  rcases g with ⟨e, q⟩ | q
  · refine Or.inl ⟨e, fun j hj => ?_⟩
    by_cases e : j = b.toInt.toNat
    · subst e; exact fun z => c z.1
    · exact q j (by omega)
  · exact Or.inr q
theorem pm_LG.no2 {f : Nat → Int32} {h best b r : Int32} {n : Nat} (g : pm_LG f h best b.toInt.toNat) (h1 : 0 ≤ b.toInt) (h2 : b.toInt ≤ 7) (hn : n = b.toInt.toNat + 1) (hr : r = f (pm_I b 3)) (c : ¬ r.toInt = h.toInt) : pm_LG f h best n := by
  rw [pm_I_eq (k := 3) (y := 3) (by decide) (by decide) h1 h2] at hr
  rcases g with ⟨e, q⟩ | q
  · refine Or.inl ⟨e, fun j hj => ?_⟩
    by_cases e : j = b.toInt.toNat
    · subst e; exact fun z => c (by rw [hr]; exact congrArg Int32.toInt z.2)
    · exact q j (by omega)
  · exact Or.inr q
theorem pm_LG.hit {f : Nat → Int32} {h b r : Int32} {n : Nat} (h1 : 0 ≤ b.toInt) (h2 : b.toInt ≤ 7) (ht : f (pm_I b 7) = 1) (hr : r = f (pm_I b 3)) (hc : r = h) : pm_LG f h b n := by
  refine Or.inr ⟨h1, h2, ?_, ?_⟩
  · rw [← pm_I_eq (k := 7) (y := 7) (by decide) (by decide) h1 h2]; exact ht
  · rw [← pm_I_eq (k := 3) (y := 3) (by decide) (by decide) h1 h2, ← hr]; exact hc
theorem pm_LG.keep {f : Nat → Int32} {h best : Int32} {m n : Nat} (g : pm_LG f h best m) (c : ¬ best.toInt = -1) : pm_LG f h best n := by
  rcases g with ⟨e, _⟩ | q
  · exact absurd e c
  · exact Or.inr q
theorem pm_LG.fin {f : Nat → Int32} {h best : Int32} {n : Nat} (g : pm_LG f h best n) (hn : 8 ≤ n) (o : pm_on f h) : 0 ≤ best.toInt ∧ pm_at f h best.toInt.toNat := by
  rcases g with ⟨_, q⟩ | q
  · obtain ⟨b, hb, z⟩ := o
    exact absurd z (q b (by omega))
  · exact ⟨q.1, q.2.2⟩
noncomputable def pm_c1 (f : Nat → Int32) (h : Int32) (b : Nat) : Nat := @ite Nat (pm_at f h b) (Classical.propDecidable _) 1 0
noncomputable def pm_cnt (f : Nat → Int32) (h : Int32) : Nat := pm_c1 f h 0 + pm_c1 f h 1 + pm_c1 f h 2 + pm_c1 f h 3 + pm_c1 f h 4 + pm_c1 f h 5 + pm_c1 f h 6 + pm_c1 f h 7
theorem pm_c1_one {f : Nat → Int32} {h : Int32} {b : Nat} (q : pm_at f h b) : pm_c1 f h b = 1 := if_pos q
theorem pm_c1_zero {f : Nat → Int32} {h : Int32} {b : Nat} (q : ¬ pm_at f h b) : pm_c1 f h b = 0 := if_neg q
theorem pm_c1_same {f g : Nat → Int32} {h : Int32} {b : Nat} (q1 : g (8 * b + 7) = f (8 * b + 7)) (q2 : g (8 * b + 3) = f (8 * b + 3)) : pm_c1 g h b = pm_c1 f h b := by
  unfold pm_c1 pm_at
  rw [q1, q2]
theorem pm_cnt_drop {f g : Nat → Int32} {h i v : Int32} {b : Nat} (q : pm_at f h b) (hb : b < 8) (ei : i.toInt = 8 * (b : Int) + 3) (hg : g = upd f i.toNatClampNeg v) (hv : ¬ v = h) : pm_cnt g h < pm_cnt f h := by
  have z : pm_c1 g h b = 0 := pm_c1_zero (fun w => hv (by
    have := w.2
    rw [hg] at this
    rcases pm_uq (f := f) (v := v) (n := 8 * b + 3) (i := i) (by omega) with ⟨q1, q2⟩ | ⟨q1, q2⟩
    · rw [q2] at this; exact this
    · omega))
  have o := pm_c1_one q
  have s : ∀ d : Nat, ¬ d = b → pm_c1 g h d = pm_c1 f h d := fun d hd => by
    refine pm_c1_same ?_ ?_ <;> rw [hg]
    · rcases pm_uq (f := f) (v := v) (n := 8 * d + 7) (i := i) (by omega) with ⟨q1, q2⟩ | ⟨q1, q2⟩
      · omega
      · exact q2
    · rcases pm_uq (f := f) (v := v) (n := 8 * d + 3) (i := i) (by omega) with ⟨q1, q2⟩ | ⟨q1, q2⟩
      · omega
      · exact q2
  unfold pm_cnt
  rcases (show b = 0 ∨ b = 1 ∨ b = 2 ∨ b = 3 ∨ b = 4 ∨ b = 5 ∨ b = 6 ∨ b = 7 by omega) with rfl | rfl | rfl | rfl | rfl | rfl | rfl | rfl
  · rw [z, o, s 1 (by decide), s 2 (by decide), s 3 (by decide), s 4 (by decide), s 5 (by decide), s 6 (by decide), s 7 (by decide)]; omega
  · rw [z, o, s 0 (by decide), s 2 (by decide), s 3 (by decide), s 4 (by decide), s 5 (by decide), s 6 (by decide), s 7 (by decide)]; omega
  · rw [z, o, s 0 (by decide), s 1 (by decide), s 3 (by decide), s 4 (by decide), s 5 (by decide), s 6 (by decide), s 7 (by decide)]; omega
  · rw [z, o, s 0 (by decide), s 1 (by decide), s 2 (by decide), s 4 (by decide), s 5 (by decide), s 6 (by decide), s 7 (by decide)]; omega
  · rw [z, o, s 0 (by decide), s 1 (by decide), s 2 (by decide), s 3 (by decide), s 5 (by decide), s 6 (by decide), s 7 (by decide)]; omega
  · rw [z, o, s 0 (by decide), s 1 (by decide), s 2 (by decide), s 3 (by decide), s 4 (by decide), s 6 (by decide), s 7 (by decide)]; omega
  · rw [z, o, s 0 (by decide), s 1 (by decide), s 2 (by decide), s 3 (by decide), s 4 (by decide), s 5 (by decide), s 7 (by decide)]; omega
  · rw [z, o, s 0 (by decide), s 1 (by decide), s 2 (by decide), s 3 (by decide), s 4 (by decide), s 5 (by decide), s 6 (by decide)]; omega
/-! a free place -/
def pm_full (f : Nat → Int32) (n : Nat) : Prop := ∀ j : Nat, j < n → f (8 * j + 7) = 1
theorem pm_full.zero {f : Nat → Int32} {n : Nat} (h : n = 0) : pm_full f n := fun j hj => by omega
theorem pm_full.next {f : Nat → Int32} {b : Int32} {n : Nat} (g : pm_full f b.toInt.toNat) (h1 : 0 ≤ b.toInt) (h2 : b.toInt ≤ 7) (hn : n = b.toInt.toNat + 1) (ht : f (pm_I b 7) = 1) : pm_full f n := by
  rw [pm_I_eq (k := 7) (y := 7) (by decide) (by decide) h1 h2] at ht
  intro j hj
  by_cases e : j = b.toInt.toNat
  · subst e; exact ht
  · exact g j (by omega)
def pm_free (f : Nat → Int32) : Prop := ¬ pm_full f 8
theorem pm_free.mk {f : Nat → Int32} {b : Int32} (ht : ¬ f (pm_I b 7) = 1) (h1 : 0 ≤ b.toInt) (h2 : b.toInt ≤ 7) : pm_free f := fun q => ht (by
  rw [pm_I_eq (k := 7) (y := 7) (by decide) (by decide) h1 h2]; exact q _ (by omega))
theorem pm_full.le {f : Nat → Int32} {m n : Nat} (g : pm_full f m) (h : n ≤ m) : pm_full f n := fun j hj => g j (by omega)
/-! the sum of all sizes -/
def pm_SA (f : Nat → Int32) (s : Int) (n : Nat) : Prop := 0 ≤ s ∧ s ≤ 99 * (n : Int) ∧ ∀ j : Nat, j < n → f (8 * j + 7) = 1 → (f (8 * j)).toInt ≤ s
theorem pm_SA.zero {f : Nat → Int32} {s : Int} {n : Nat} (e : s = 0) (h : n = 0) : pm_SA f s n := ⟨by omega, by omega, fun j hj => by omega⟩
theorem pm_SA.no {f : Nat → Int32} {s s' : Int} {b : Int32} {n : Nat} (g : pm_SA f s b.toInt.toNat) (h1 : 0 ≤ b.toInt) (h2 : b.toInt ≤ 7) (hn : n = b.toInt.toNat + 1) (hs : s' = s) (c : ¬ f (pm_I b 7) = 1) : pm_SA f s' n := by
  rw [pm_I_eq (k := 7) (y := 7) (by decide) (by decide) h1 h2] at c
  obtain ⟨g1, g2, g3⟩ := g
  refine ⟨by omega, by omega, fun j hj => ?_⟩
  by_cases e : j = b.toInt.toNat
  · subst e; exact fun z => absurd z c
  · rw [hs]; exact g3 j (by omega)
theorem pm_SA.add {f : Nat → Int32} {s s' : Int} {b r : Int32} {n : Nat} (g : pm_SA f s b.toInt.toNat) (h1 : 0 ≤ b.toInt) (h2 : b.toInt ≤ 7) (hn : n = b.toInt.toNat + 1) (hr : r = f (pm_I b 0)) (c1 : 0 ≤ r.toInt) (c2 : r.toInt ≤ 99) (hs : s' = s + r.toInt) : pm_SA f s' n := by
  rw [pm_I_eq (k := 0) (y := 0) (by decide) (by decide) h1 h2] at hr
  obtain ⟨g1, g2, g3⟩ := g
  refine ⟨by omega, by omega, fun j hj => ?_⟩
  by_cases e : j = b.toInt.toNat
  · subst e
    intro _
    rw [← show r = f (8 * b.toInt.toNat) from hr]
    omega
  · intro q
    have := g3 j (by omega) q
    omega
theorem pm_SA.pos {f : Nat → Int32} {s : Int} {b : Int32} {n : Nat} (g : pm_SA f s n) (hn : 8 ≤ n) (h1 : 0 ≤ b.toInt) (h2 : b.toInt ≤ 7) (w : pm_NW f) (ht : f (pm_I b 7) = 1) : 1 ≤ s := by
  rw [pm_I_eq (k := 7) (y := 7) (by decide) (by decide) h1 h2] at ht
  have := g.2.2 b.toInt.toNat (by omega) ht
  have := w.2 b.toInt.toNat (by omega) ht
  omega
theorem pm_ne {i k : Int32} {z : Int} {c : Nat} (ei : i.toInt = z) (ek : k.toInt = (c : Int)) (h0 : 0 ≤ z) (h : ¬ z = (c : Int)) : ¬ Int32.toNatClampNeg k = Int32.toNatClampNeg i := by
  rw [pm_ix (n := c) ek rfl, pm_ix (n := z.toNat) ei (by omega)]
  omega
/-! rows that are copied -/
theorem pm_NW.ext {f g : Nat → Int32} (h : pm_NW f) (e : ∀ j : Nat, j < 67 → g j = f j) : pm_NW g := by
  refine ⟨⟨fun b hb => ?_, ?_⟩, fun b hb => ?_⟩
  · rw [e (8 * b) (by omega), e (8 * b + 4) (by omega)]; exact h.1.1 b hb
  · rw [e 66 (by omega)]; exact h.1.2
  · rw [e (8 * b) (by omega), e (8 * b + 7) (by omega)]; exact h.2 b hb
def pm_NWL (f : Nat → Int32) : Prop := (∀ b : Nat, b < 8 → 0 ≤ (f (8 * b)).toInt ∧ (f (8 * b)).toInt ≤ 99 ∧ 0 ≤ (f (8 * b + 4)).toInt ∧ (f (8 * b + 4)).toInt ≤ 1) ∧ ∀ b : Nat, b < 8 → f (8 * b + 7) = 1 → 1 ≤ (f (8 * b)).toInt
theorem pm_NWL.ext {f g : Nat → Int32} (h : pm_NWL f) (e : ∀ j : Nat, j < 66 → g j = f j) : pm_NWL g := by
  refine ⟨fun b hb => ?_, fun b hb => ?_⟩
  · rw [e (8 * b) (by omega), e (8 * b + 4) (by omega)]; exact h.1 b hb
  · rw [e (8 * b) (by omega), e (8 * b + 7) (by omega)]; exact h.2 b hb
theorem pm_NW.low {f : Nat → Int32} (h : pm_NW f) : pm_NWL f := ⟨h.1.1, h.2⟩
def pm_KP (f : Nat → Int32) : Prop := ∀ i : Nat, i < 40 → pm_NW (fun j => f (247 * i + j))
def pm_AS (f : Nat → Int32) : Prop := ∀ i : Nat, i < 8 → pm_NWL (fun j => f (66 * i + j))
def pm_RU (f : Nat → Int32) : Prop := (0 ≤ (f 1).toInt ∧ (f 1).toInt ≤ 5) ∧ 0 ≤ (f 0).toInt
def pm_sh (f : Nat → Int32) (d n : Nat) : Nat → Int32 := fun j => if j < n then f (j + d) else f j
theorem pm_cp.zero {f g : Nat → Int32} {sp dp n : Nat} (h : n = 0) : g = va_cpy f g sp dp n := by
  funext j
  rw [pk_cpy_out (by omega)]
theorem pm_cp.step {c f g fn : Nat → Int32} {i j k k' v : Int32} {sp dp : Nat} (h : c = va_cpy f g sp dp k.toInt.toNat) (e : fn = upd c (Int32.toNatClampNeg i) v) (hv : v = f (Int32.toNatClampNeg j)) (h1 : 0 ≤ k.toInt) (h2 : k'.toInt = k.toInt + 1) (hi : i.toInt = (dp : Int) + k.toInt) (hj : j.toInt = (sp : Int) + k.toInt) : fn = va_cpy f g sp dp k'.toInt.toNat := by
  subst e
  funext x
  rw [pm_ix (n := dp + k.toInt.toNat) hi (by omega)]
  rw [pm_ix (n := sp + k.toInt.toNat) hj (by omega)] at hv
  by_cases q : x = dp + k.toInt.toNat
  · subst q
    rw [pk_us, pk_cpy_in (by omega) (by omega), hv]
    congr 1
    omega
  · rw [pk_un q, h]
    by_cases w : dp ≤ x ∧ x < dp + k.toInt.toNat
    · rw [pk_cpy_in w.1 w.2, pk_cpy_in w.1 (by omega)]
    · rw [pk_cpy_out (by omega), pk_cpy_out (by omega)]
theorem pm_sh.zero {f : Nat → Int32} {d n : Nat} (h : n = 0) : f = pm_sh f d n := by
  funext j
  exact (if_neg (by omega)).symm
theorem pm_sh.step {c f fn : Nat → Int32} {i j v : Int32} {d n n' : Nat} (h : c = pm_sh f d n) (e : fn = upd c (Int32.toNatClampNeg i) v) (hv : v = c (Int32.toNatClampNeg j)) (h2 : n' = n + 1) (hi : i.toInt = (n : Int)) (hj : j.toInt = (n : Int) + d) : fn = pm_sh f d n' := by
  subst e; subst h2
  rw [pm_ix (n := n) hi (by omega)]
  rw [pm_ix (n := n + d) hj (by omega)] at hv
  funext x
  by_cases q : x = n
  · subst q
    rw [pk_us, hv, h]
    show (if _ then _ else _) = (if _ then _ else _)
    rw [if_neg (by omega), if_pos (by omega)]
  · rw [pk_un q, h]
    show (if _ then _ else _) = (if _ then _ else _)
    by_cases w : x < n
    · rw [if_pos w, if_pos (by omega)]
    · rw [if_neg w, if_neg (by omega)]
theorem pm_KP.put {c f g : Nat → Int32} {a : Int} {n : Nat} (e : c = va_cpy f g 0 (247 * a).toNat n) (h : pm_KP g) (w : pm_NW f) (hn : n = 247) (h1 : 0 ≤ a) (h2 : a ≤ 39) : pm_KP c := by
  intro i hi
  by_cases q : i = a.toNat
  · refine w.ext (fun j hj => ?_)
    show c (247 * i + j) = f j
    rw [e, pk_cpy_in (by omega) (by omega)]
    congr 1
    omega
  · refine (h i hi).ext (fun j hj => ?_)
    show c (247 * i + j) = g (247 * i + j)
    rw [e, pk_cpy_out (by omega)]
theorem pm_KP.get {c f g : Nat → Int32} {a : Int} {n : Nat} (e : c = va_cpy f g (247 * a).toNat 0 n) (h : pm_KP f) (hn : n = 247) (h1 : 0 ≤ a) (h2 : a ≤ 39) : pm_NW c := by
  refine (h a.toNat (by omega)).ext (fun j hj => ?_)
  show c j = f (247 * a.toNat + j)
  rw [e, pk_cpy_in (by omega) (by omega)]
  congr 1
  omega
theorem pm_KP.shift {c f : Nat → Int32} {n : Nat} (e : c = pm_sh f 247 n) (h : pm_KP f) (hn : n = 9633) : pm_KP c := by
  intro i hi
  subst hn
  by_cases q : i < 39
  · refine (h (i + 1) (by omega)).ext (fun j hj => ?_)
    show c (247 * i + j) = f (247 * (i + 1) + j)
    rw [e]
    show (if _ then _ else _) = _
    rw [if_pos (by omega)]
    congr 1
    omega
  · refine (h i hi).ext (fun j hj => ?_)
    show c (247 * i + j) = f (247 * i + j)
    rw [e]
    show (if _ then _ else _) = _
    rw [if_neg (by omega)]
theorem pm_AS.put {c f g : Nat → Int32} {a : Int} {n : Nat} (e : c = va_cpy f g 0 (66 * a).toNat n) (h : pm_AS g) (w : pm_NW f) (hn : n = 66) (h1 : 0 ≤ a) (h2 : a ≤ 7) : pm_AS c := by
  intro i hi
  by_cases q : i = a.toNat
  · refine w.low.ext (fun j hj => ?_)
    show c (66 * i + j) = f j
    rw [e, pk_cpy_in (by omega) (by omega)]
    congr 1
    omega
  · refine (h i hi).ext (fun j hj => ?_)
    show c (66 * i + j) = g (66 * i + j)
    rw [e, pk_cpy_out (by omega)]
theorem pm_AS.get {c f g : Nat → Int32} {a : Int} {n : Nat} (e : c = va_cpy f g (66 * a).toNat 0 n) (h : pm_AS f) (w : pm_NW0 g) (hn : n = 66) (h1 : 0 ≤ a) (h2 : a ≤ 7) : pm_NW c := by
  have z : pm_NWL c := (h a.toNat (by omega)).ext (fun j hj => by
    show c j = f (66 * a.toNat + j)
    rw [e, pk_cpy_in (by omega) (by omega)]
    congr 1
    omega)
  refine ⟨⟨z.1, ?_⟩, z.2⟩
  rw [e, pk_cpy_out (by omega)]
  exact w.2
theorem pm_NW.cp {c f g : Nat → Int32} {n : Nat} (e : c = va_cpy f g 0 0 n) (h : pm_NW f) (hn : n = 247) : pm_NW c := by
  refine h.ext (fun j hj => ?_)
  rw [e, pk_cpy_in (by omega) (by omega)]
  congr 1
  omega
/-! the code of a law: how high the pile stands -/
def pm_St (c v : Int32) (s u : Int) : Prop := 0 ≤ s ∧ ((c.toInt = 0 ∧ s ≤ 79 ∧ u = s + 1) ∨ (c.toInt = 1 ∧ 0 ≤ v.toInt ∧ v.toInt ≤ 5 ∧ s ≤ 79 ∧ u = s + 1) ∨ (c.toInt = 9 ∧ 1 ≤ s ∧ u = s) ∨ (2 ≤ c.toInt ∧ ¬ c.toInt = 9 ∧ 2 ≤ s ∧ u = s - 1))
theorem pm_St.rows {c v : Int32} {s u : Int} (h : pm_St c v s u) : 0 ≤ s ∧ ((c.toInt = 0 ∧ s ≤ 79 ∧ u = s + 1) ∨ (c.toInt = 1 ∧ 0 ≤ v.toInt ∧ v.toInt ≤ 5 ∧ s ≤ 79 ∧ u = s + 1) ∨ (c.toInt = 9 ∧ 1 ≤ s ∧ u = s) ∨ (2 ≤ c.toInt ∧ ¬ c.toInt = 9 ∧ 2 ≤ s ∧ u = s - 1)) := h
def pm_Run (c v : Nat → Int32) : Nat → Nat → Int → Int → Prop
  | _, 0, s, t => s = t
  | a, n + 1, s, t => ∃ u, pm_St (c a) (v a) s u ∧ pm_Run c v (a + 1) n u t
theorem pm_Run.head {c v : Nat → Int32} {i : Int32} {a n : Nat} {s t : Int} (h : pm_Run c v a n s t) (e : (i.toInt : Int) = a) (hn : 0 < n) : ∃ u, pm_St (c i.toNatClampNeg) (v i.toNatClampNeg) s u ∧ pm_Run c v (a + 1) (n - 1) u t := by
  rw [pm_ix (n := a) e rfl]
  cases n with
  | zero => omega
  | succ n => exact h
theorem pm_Run.cast {c v : Nat → Int32} {a a' n n' : Nat} {s s' t : Int} (h : pm_Run c v a n s t) (ea : a = a') (en : n = n') (es : s = s') : pm_Run c v a' n' s' t := by
  subst ea; subst en; subst es; exact h
theorem pm_Run.ext {c v c' v' : Nat → Int32} : ∀ (n a : Nat) (s t : Int), pm_Run c v a n s t → (∀ j : Nat, a ≤ j → j < a + n → c' j = c j ∧ v' j = v j) → pm_Run c' v' a n s t
  | 0, _, _, _, h, _ => h
  | n + 1, a, s, t, ⟨u, h1, h2⟩, e => by
    refine ⟨u, ?_, pm_Run.ext n (a + 1) u t h2 (fun j q1 q2 => e j (by omega) (by omega))⟩
    rw [(e a (by omega) (by omega)).1, (e a (by omega) (by omega)).2]
    exact h1
theorem pm_Run.app {c v : Nat → Int32} : ∀ (n a m : Nat) (s t u : Int), pm_Run c v a n s t → pm_Run c v (a + n) m t u → pm_Run c v a (n + m) s u
  | 0, a, m, s, t, u, h, g => by
    have h : s = t := h
    subst h
    rw [Nat.zero_add]
    exact g
  | n + 1, a, m, s, t, u, ⟨w, h1, h2⟩, g => by
    rw [show n + 1 + m = (n + m) + 1 by omega]
    refine ⟨w, h1, pm_Run.app n (a + 1) m w t u h2 ?_⟩
    rw [show a + 1 + n = a + (n + 1) by omega]
    exact g
def pm_Seg (c v : Nat → Int32) (n f t : Int32) : Prop := 0 ≤ f.toInt ∧ f.toInt ≤ t.toInt ∧ t.toInt ≤ 519 ∧ ∃ z, pm_Run c v (520 * n.toInt + f.toInt).toNat (t.toInt - f.toInt).toNat 0 z
theorem pm_Seg.start {c v : Nat → Int32} {n f t k : Int32} {s : Int} (h : pm_Seg c v n f t) (e1 : s = 0) (h1 : 0 ≤ n.toInt) (h2 : n.toInt ≤ 4) (e2 : k.toInt = 520 * n.toInt + f.toInt) : 0 ≤ s ∧ s ≤ 80 ∧ k.toInt ≤ 520 * n.toInt + t.toInt ∧ ∃ z, pm_Run c v k.toInt.toNat (520 * n.toInt + t.toInt - k.toInt).toNat s z := by
  obtain ⟨q1, q2, q3, z, q⟩ := h
  exact ⟨by omega, by omega, by omega, z, q.cast (by omega) (by omega) (by omega)⟩
def pm_Row (n : Int32) (c v cl tf sf st : Nat → Int32) : Prop := (0 ≤ (cl n.toInt.toNat).toInt ∧ (cl n.toInt.toNat).toInt ≤ 139) ∧ ∀ j : Nat, j < (cl n.toInt.toNat).toInt.toNat → pm_Seg c v n (tf (140 * n.toInt.toNat + j)) (sf (140 * n.toInt.toNat + j)) ∧ pm_Seg c v n (sf (140 * n.toInt.toNat + j)) (st (140 * n.toInt.toNat + j))
theorem pm_Row.many {n : Int32} {c v cl tf sf st : Nat → Int32} (h : pm_Row n c v cl tf sf st) (h1 : 0 ≤ n.toInt) (h2 : n.toInt ≤ 4) : 0 ≤ (cl (Int32.toNatClampNeg n)).toInt ∧ (cl (Int32.toNatClampNeg n)).toInt ≤ 139 := by
  rw [pm_ix (n := n.toInt.toNat) (i := n) rfl (by omega)]
  exact h.1
theorem pm_Row.at {n k m : Int32} {c v cl tf sf st : Nat → Int32} (h : pm_Row n c v cl tf sf st) (e : m = cl (Int32.toNatClampNeg n)) (h0 : 0 ≤ n.toInt) (h1 : 140 * n.toInt ≤ k.toInt) (h2 : k.toInt < 140 * n.toInt + m.toInt) : pm_Seg c v n (tf (Int32.toNatClampNeg k)) (sf (Int32.toNatClampNeg k)) ∧ pm_Seg c v n (sf (Int32.toNatClampNeg k)) (st (Int32.toNatClampNeg k)) := by
  have e2 : k.toNatClampNeg = 140 * n.toInt.toNat + (k.toInt - 140 * n.toInt).toNat := pm_ix rfl (by omega)
  rw [pm_ix (n := n.toInt.toNat) (i := n) rfl (by omega)] at e
  rw [e2]
  exact h.2 _ (by rw [← e]; omega)
theorem pm_Row.tf {n k m : Int32} {c v cl tf sf st : Nat → Int32} (h : pm_Row n c v cl tf sf st) (e : m = cl (Int32.toNatClampNeg n)) (h0 : 0 ≤ n.toInt) (h1 : 140 * n.toInt ≤ k.toInt) (h2 : k.toInt < 140 * n.toInt + m.toInt) : 0 ≤ (tf (Int32.toNatClampNeg k)).toInt ∧ (tf (Int32.toNatClampNeg k)).toInt ≤ 519 := by
  obtain ⟨⟨q1, q2, q3, _⟩, _⟩ := h.at e h0 h1 h2
  exact ⟨by omega, by omega⟩
theorem pm_Row.sf {n k m : Int32} {c v cl tf sf st : Nat → Int32} (h : pm_Row n c v cl tf sf st) (e : m = cl (Int32.toNatClampNeg n)) (h0 : 0 ≤ n.toInt) (h1 : 140 * n.toInt ≤ k.toInt) (h2 : k.toInt < 140 * n.toInt + m.toInt) : 0 ≤ (sf (Int32.toNatClampNeg k)).toInt ∧ (sf (Int32.toNatClampNeg k)).toInt ≤ 519 := by
  obtain ⟨⟨q1, q2, q3, _⟩, _⟩ := h.at e h0 h1 h2
  exact ⟨by omega, by omega⟩
theorem pm_Row.st {n k m : Int32} {c v cl tf sf st : Nat → Int32} (h : pm_Row n c v cl tf sf st) (e : m = cl (Int32.toNatClampNeg n)) (h0 : 0 ≤ n.toInt) (h1 : 140 * n.toInt ≤ k.toInt) (h2 : k.toInt < 140 * n.toInt + m.toInt) : 0 ≤ (st (Int32.toNatClampNeg k)).toInt ∧ (st (Int32.toNatClampNeg k)).toInt ≤ 519 := by
  obtain ⟨_, q1, q2, q3, _⟩ := h.at e h0 h1 h2
  exact ⟨by omega, by omega⟩
theorem pm_Row.tests {n k m a b : Int32} {c v cl tf sf st : Nat → Int32} (h : pm_Row n c v cl tf sf st) (ea : a = tf (Int32.toNatClampNeg k)) (eb : b = sf (Int32.toNatClampNeg k)) (e : m = cl (Int32.toNatClampNeg n)) (h0 : 0 ≤ n.toInt) (h1 : 140 * n.toInt ≤ k.toInt ∧ k.toInt < 140 * n.toInt + m.toInt) : pm_Seg c v n a b := by
  rw [ea, eb]; exact (h.at e h0 h1.1 h1.2).1
theorem pm_Row.sums {n k m a b : Int32} {c v cl tf sf st : Nat → Int32} (h : pm_Row n c v cl tf sf st) (ea : a = sf (Int32.toNatClampNeg k)) (eb : b = st (Int32.toNatClampNeg k)) (e : m = cl (Int32.toNatClampNeg n)) (h0 : 0 ≤ n.toInt) (h1 : 140 * n.toInt ≤ k.toInt ∧ k.toInt < 140 * n.toInt + m.toInt) : pm_Seg c v n a b := by
  rw [ea, eb]; exact (h.at e h0 h1.1 h1.2).2
def pm_Held (h : Int32) (c v cl tf sf st : Nat → Int32) : Prop := 0 ≤ h.toInt → pm_Row h c v cl tf sf st
theorem pm_Held.row {h : Int32} {c v cl tf sf st : Nat → Int32} (q : pm_Held h c v cl tf sf st) (h0 : 0 ≤ h.toInt) : pm_Row h c v cl tf sf st := q h0
/-! a bag as it was told -/
def pm_bg (f : Nat → Int32) (b : Int32) : Prop := (1 ≤ (f (5 * b.toInt.toNat)).toInt ∧ (f (5 * b.toInt.toNat)).toInt ≤ 99) ∧ 0 ≤ (f (5 * b.toInt.toNat + 4)).toInt ∧ (f (5 * b.toInt.toNat + 4)).toInt ≤ 1
theorem pm_bg.sz {f : Nat → Int32} {b i : Int32} (h : pm_bg f b) (h0 : 0 ≤ b.toInt) (e : i.toInt = 5 * b.toInt) (_ : b.toInt ≤ 7) : 1 ≤ (f i.toNatClampNeg).toInt ∧ (f i.toNatClampNeg).toInt ≤ 99 := by
  rw [pm_ix (n := 5 * b.toInt.toNat) e (by omega)]
  exact h.1
theorem pm_bg.la {f : Nat → Int32} {b i : Int32} (h : pm_bg f b) (h0 : 0 ≤ b.toInt) (e : i.toInt = 5 * b.toInt + 4) (_ : b.toInt ≤ 7) : 0 ≤ (f i.toNatClampNeg).toInt ∧ (f i.toNatClampNeg).toInt ≤ 1 := by
  rw [pm_ix (n := 5 * b.toInt.toNat + 4) e (by omega)]
  exact h.2
def pm_BG (n : Int32) (f : Nat → Int32) : Prop := ∀ b : Int32, 0 ≤ b.toInt → b.toInt < n.toInt → pm_bg f b
theorem pm_k66 {c g fn : Nat → Int32} {i v : Int32} (e : fn = upd c (Int32.toNatClampNeg i) v) (h : c (Int32.toNatClampNeg 66) = g (Int32.toNatClampNeg 66)) (hi : 67 ≤ i.toInt) : fn (Int32.toNatClampNeg 66) = g (Int32.toNatClampNeg 66) := by
  rw [e, pk_un (pm_ne (c := 66) rfl (by decide) (by omega) (by omega))]
  exact h
/-! the reader of laws -/
def pm_lt (c : Int) : Int := if c = 122 then 0 else if c = 97 then 1 else if c = 111 then 2 else if c = 110 then 3 else if c = 100 then 4 else if c = 116 then 5 else -1
def pm_dig (a n : Int32) (t : Nat → Int32) : Prop := a.toInt < n.toInt ∧ 48 ≤ (t (Int32.toNatClampNeg a)).toInt ∧ (t (Int32.toNatClampNeg a)).toInt ≤ 57
theorem pm_dig.mk {a n : Int32} {t : Nat → Int32} (h1 : a.toInt < n.toInt) (h2 : 48 ≤ (t (Int32.toNatClampNeg a)).toInt) (h3 : (t (Int32.toNatClampNeg a)).toInt ≤ 57) : pm_dig a n t := ⟨h1, h2, h3⟩
def pm_x (s : Nat → Int32) (T : Int32) : Int := (s (Int32.toNatClampNeg T)).toInt
def pm_F (T : Int32) (c v s c' v' s' : Nat → Int32) : Prop := pm_x s T ≤ pm_x s' T ∧ 0 ≤ pm_x s T ∧ (∀ j : Nat, (j < 520 * T.toInt.toNat + (pm_x s T).toNat ∨ 520 * T.toInt.toNat + 520 ≤ j) → c' j = c j ∧ v' j = v j) ∧ ∀ j : Nat, ¬ j = Int32.toNatClampNeg T → s' j = s j
def pm_Put (T a b : Int32) (c v s c' v' s' : Nat → Int32) : Prop := (0 ≤ pm_x s T ∧ pm_x s T ≤ 500) ∧ pm_x s' T = pm_x s T + 1 ∧ c' = upd c (520 * T.toInt.toNat + (pm_x s T).toNat) a ∧ v' = upd v (520 * T.toInt.toNat + (pm_x s T).toNat) b ∧ ∀ j : Nat, ¬ j = Int32.toNatClampNeg T → s' j = s j
theorem pm_Put.mk {T a b i1 i2 x y : Int32} {c v s c' v' s' : Nat → Int32} (e1 : c' = upd c (Int32.toNatClampNeg i1) a) (e2 : v' = upd v (Int32.toNatClampNeg i2) b) (e3 : s' = upd s (Int32.toNatClampNeg T) y) (ex : x = s (Int32.toNatClampNeg T)) (h1 : i1.toInt = 520 * T.toInt + x.toInt) (h2 : i2.toInt = 520 * T.toInt + x.toInt) (h3 : y.toInt = x.toInt + 1) (h4 : 0 ≤ T.toInt) (h5 : 0 ≤ pm_x s T) (h6 : pm_x s T ≤ 500) : pm_Put T a b c v s c' v' s' := by
  have hx : pm_x s T = x.toInt := by rw [ex]; rfl
  refine ⟨⟨h5, h6⟩, ?_, ?_, ?_, fun j hj => ?_⟩
  · rw [e3]
    show (upd s _ y _).toInt = _
    rw [pk_us, hx]
    exact h3
  · rw [e1, pm_ix (n := 520 * T.toInt.toNat + (pm_x s T).toNat) h1 (by omega)]
  · rw [e2, pm_ix (n := 520 * T.toInt.toNat + (pm_x s T).toNat) h2 (by omega)]
  · rw [e3, pk_un hj]
theorem pm_Put.step {T a b : Int32} {c v s c' v' s' : Nat → Int32} (h : pm_Put T a b c v s c' v' s') : pm_x s' T = pm_x s T + 1 := h.2.1
theorem pm_Put.fr {T a b : Int32} {c v s c' v' s' : Nat → Int32} (h : pm_Put T a b c v s c' v' s') : pm_F T c v s c' v' s' := by
  obtain ⟨⟨h1, h2⟩, h3, h4, h5, h6⟩ := h
  refine ⟨by omega, h1, fun j hj => ?_, h6⟩
  rw [h4, h5, pk_un (by omega), pk_un (by omega)]
  exact ⟨rfl, rfl⟩
theorem pm_F.app {T : Int32} {c v s c' v' s' c'' v'' s'' : Nat → Int32} (h : pm_F T c v s c' v' s') (g : pm_F T c' v' s' c'' v'' s'') : pm_F T c v s c'' v'' s'' := by
  obtain ⟨h1, h2, h3, h4⟩ := h
  obtain ⟨g1, g2, g3, g4⟩ := g
  refine ⟨by omega, h2, fun j hj => ?_, fun j hj => by rw [g4 j hj, h4 j hj]⟩
  have a := h3 j hj
  have b := g3 j (by omega)
  exact ⟨by rw [b.1, a.1], by rw [b.2, a.2]⟩
theorem pm_F.put {T a b : Int32} {c v s c' v' s' c'' v'' s'' : Nat → Int32} (h : pm_F T c v s c' v' s') (g : pm_Put T a b c' v' s' c'' v'' s'') : pm_F T c v s c'' v'' s'' := h.app g.fr
def pm_R (T : Int32) (L k B : Int) (c v s c' v' s' : Nat → Int32) : Prop := pm_F T c v s c' v' s' ∧ ∀ z : Int, L ≤ z → z + B ≤ 80 → pm_Run c' v' (520 * T.toInt.toNat + (pm_x s T).toNat) (pm_x s' T - pm_x s T).toNat z (z + k)
theorem pm_R.refl {L : Int} (T : Int32) (c v s : Nat → Int32) (h : 0 ≤ pm_x s T) : pm_R T L 0 0 c v s c v s := by
  refine ⟨⟨Int.le_refl _, h, fun _ _ => ⟨rfl, rfl⟩, fun _ _ => rfl⟩, fun z _ _ => ?_⟩
  rw [show (pm_x s T - pm_x s T).toNat = 0 by omega]
  show z = z + 0
  omega
theorem pm_R.mono {T : Int32} {L k B B' : Int} {c v s c' v' s' : Nat → Int32} (h : pm_R T L k B c v s c' v' s') (hb : B ≤ B') : pm_R T L k B' c v s c' v' s' := ⟨h.1, fun z h1 h2 => h.2 z h1 (by omega)⟩
theorem pm_R.app {T : Int32} {L k B L' k1 B' k' D : Int} {c v s c' v' s' c'' v'' s'' : Nat → Int32} (h : pm_R T L k B c v s c' v' s') (g : pm_R T L' k1 B' c' v' s' c'' v'' s'') (q1 : L' ≤ L + k) (q2 : B ≤ D) (q3 : k + B' ≤ D) (q4 : k' = k + k1) : pm_R T L k' D c v s c'' v'' s'' := by
  refine ⟨h.1.app g.1, fun z h1 h2 => ?_⟩
  have a := h.2 z h1 (by omega)
  have b := g.2 (z + k) (by omega) (by omega)
  obtain ⟨f1, f2, f3, f4⟩ := h.1
  obtain ⟨g1, g2, g3, g4⟩ := g.1
  have a' := pm_Run.ext _ _ _ _ a (c' := c'') (v' := v'') (fun j q1 q2 => g3 j (by omega))
  have b' := b.cast (a' := 520 * T.toInt.toNat + (pm_x s T).toNat + (pm_x s' T - pm_x s T).toNat) (n' := (pm_x s'' T - pm_x s' T).toNat) (by omega) rfl rfl
  have r := pm_Run.app _ _ _ _ _ _ a' b'
  rw [show (pm_x s'' T - pm_x s T).toNat = (pm_x s' T - pm_x s T).toNat + (pm_x s'' T - pm_x s' T).toNat by omega, show z + k' = z + k + k1 by omega]
  exact r
theorem pm_R.put {T a b : Int32} {L k B k' D : Int} {c v s c' v' s' c'' v'' s'' : Nat → Int32} (h : pm_R T L k B c v s c' v' s') (g : pm_Put T a b c' v' s' c'' v'' s'') (q2 : B ≤ D) (hs : ∀ z : Int, L ≤ z → z + D ≤ 80 → pm_St a b (z + k) (z + k')) : pm_R T L k' D c v s c'' v'' s'' := by
  refine ⟨h.1.put g, fun z h1 h2 => ?_⟩
  have x := h.2 z h1 (by omega)
  obtain ⟨f1, f2, f3, f4⟩ := h.1
  have g0 := g.fr
  obtain ⟨⟨e1, e2⟩, e3, e4, e5, e6⟩ := g
  have x' := pm_Run.ext _ _ _ _ x (c' := c'') (v' := v'') (fun j q1 q2 => g0.2.2.1 j (by omega))
  have y : pm_Run c'' v'' (520 * T.toInt.toNat + (pm_x s T).toNat + (pm_x s' T - pm_x s T).toNat) 1 (z + k) (z + k') := by
    refine ⟨z + k', ?_, rfl⟩
    rw [show 520 * T.toInt.toNat + (pm_x s T).toNat + (pm_x s' T - pm_x s T).toNat = 520 * T.toInt.toNat + (pm_x s' T).toNat by omega, e4, e5, pk_us, pk_us]
    exact hs z h1 h2
  have r := pm_Run.app _ _ _ _ _ _ x' y
  rw [show (pm_x s'' T - pm_x s T).toNat = (pm_x s' T - pm_x s T).toNat + 1 by omega]
  exact r
theorem pm_R.lit {T a b : Int32} {L k B k' D : Int} {c v s c' v' s' c'' v'' s'' : Nat → Int32} (h : pm_R T L k B c v s c' v' s') (g : pm_Put T a b c' v' s' c'' v'' s'') (ha : a.toInt = 0) (q2 : B ≤ D) (q3 : k' = k + 1) (q4 : k + 1 ≤ D) (q5 : 0 ≤ L + k) : pm_R T L k' D c v s c'' v'' s'' :=
  h.put g q2 (fun z _ _ => ⟨by omega, Or.inl ⟨ha, by omega, by omega⟩⟩)
theorem pm_R.let {T a b : Int32} {L k B k' D : Int} {c v s c' v' s' c'' v'' s'' : Nat → Int32} (h : pm_R T L k B c v s c' v' s') (g : pm_Put T a b c' v' s' c'' v'' s'') (ha : a.toInt = 1) (h1 : 0 ≤ b.toInt) (h2 : b.toInt ≤ 5) (q2 : B ≤ D) (q3 : k' = k + 1) (q4 : k + 1 ≤ D) (q5 : 0 ≤ L + k) : pm_R T L k' D c v s c'' v'' s'' :=
  h.put g q2 (fun z _ _ => ⟨by omega, Or.inr (Or.inl ⟨ha, h1, h2, by omega, by omega⟩)⟩)
theorem pm_R.not {T a b : Int32} {L k B k' D : Int} {c v s c' v' s' c'' v'' s'' : Nat → Int32} (h : pm_R T L k B c v s c' v' s') (g : pm_Put T a b c' v' s' c'' v'' s'') (ha : a.toInt = 9) (q2 : B ≤ D) (q3 : k' = k) (q5 : 1 ≤ L + k) : pm_R T L k' D c v s c'' v'' s'' :=
  h.put g q2 (fun z _ _ => ⟨by omega, Or.inr (Or.inr (Or.inl ⟨ha, by omega, by omega⟩))⟩)
theorem pm_R.bin {T a b : Int32} {L k B k' D : Int} {c v s c' v' s' c'' v'' s'' : Nat → Int32} (h : pm_R T L k B c v s c' v' s') (g : pm_Put T a b c' v' s' c'' v'' s'') (ha : 2 ≤ a.toInt) (hb : ¬ a.toInt = 9) (q2 : B ≤ D) (q3 : k' = k - 1) (q5 : 2 ≤ L + k) : pm_R T L k' D c v s c'' v'' s'' :=
  h.put g q2 (fun z _ _ => ⟨by omega, Or.inr (Or.inr (Or.inr ⟨ha, hb, by omega, by omega⟩))⟩)
theorem pm_draw {t m : Int32} {d u w q : Int64} {k : Int} (et : t = (q : Int64).toInt32) (eq : q = u - u / w * w) (eu : u = ((d : Int64).toUInt64 >>> ((33 : Int32).toInt64.toUInt64 &&& Int64.toUInt64 63)).toInt64) (ew : w = (m : Int32).toInt64) (hm : m.toInt = k) (h0 : 1 ≤ k) : 0 ≤ t.toInt ∧ t.toInt < k := by
  have hu : 0 ≤ u.toInt ∧ u.toInt < 2147483648 := by
    have e1 : ((33 : Int32).toInt64.toUInt64 &&& Int64.toUInt64 63) = (33 : UInt64) := by decide
    have h1 := d.toUInt64.toNat_lt
    have h2 : (d.toUInt64 >>> (33 : UInt64)).toNat = d.toUInt64.toNat / 8589934592 := by
      rw [UInt64.toNat_shiftRight, show (33 : UInt64).toNat % 64 = 33 by decide, Nat.shiftRight_eq_div_pow]
    have h3 : u.toInt = ((d.toUInt64 >>> (33 : UInt64)).toNat : Int) := by
      rw [eu, e1]
      show (d.toUInt64 >>> (33 : UInt64)).toBitVec.toInt = _
      exact BitVec.toInt_eq_toNat_of_lt (by show 2 * (d.toUInt64 >>> (33 : UInt64)).toNat < _; omega)
    omega
  have hw : w.toInt = k := by rw [ew, Int32.toInt_toInt64, hm]
  have hk := Int32.toInt_lt m
  have m0 := Int.emod_nonneg u.toInt (show k ≠ 0 by omega)
  have m1 := Int.emod_lt_of_pos u.toInt (show 0 < k by omega)
  have md := Int.emod_def u.toInt k
  have q0 : 0 ≤ u.toInt / k := Int.ediv_nonneg hu.1 (by omega)
  have q1 : u.toInt / k ≤ u.toInt := Int.ediv_le_self _ hu.1
  have p0 : 0 ≤ k * (u.toInt / k) := Int.mul_nonneg (by omega) q0
  have e1 : (u / w).toInt = u.toInt / k := by
    rw [Int64.toInt_div, hw, Int.tdiv_eq_ediv_of_nonneg hu.1]
    exact Int.bmod_eq_of_le (by omega) (by omega)
  have e2 : (u / w * w).toInt = k * (u.toInt / k) := by
    rw [Int64.toInt_mul, e1, hw, Int.mul_comm]
    exact Int.bmod_eq_of_le (by omega) (by omega)
  have e3 : (u - u / w * w).toInt = u.toInt - k * (u.toInt / k) := by
    rw [Int64.toInt_sub, e2]
    exact Int.bmod_eq_of_le (by omega) (by omega)
  have e4 : t.toInt = u.toInt - k * (u.toInt / k) := by
    rw [et, eq, Int64.toInt_toInt32, e3]
    exact Int.bmod_eq_of_le (by omega) (by omega)
  omega
/-! a row of clauses -/
theorem pm_Seg.nil {c v : Nat → Int32} {n f t : Int32} (h1 : 0 ≤ f.toInt) (h2 : f.toInt ≤ 519) (e : t.toInt = f.toInt) : pm_Seg c v n f t := ⟨h1, by omega, by omega, 0, by rw [show (t.toInt - f.toInt).toNat = 0 by omega]; rfl⟩
theorem pm_R.seg {T f t : Int32} {k B : Int} {c v s c' v' s' : Nat → Int32} (h : pm_R T 0 k B c v s c' v' s') (ef : f.toInt = pm_x s T) (et : t.toInt = pm_x s' T) (hB : B ≤ 80) (h0 : 0 ≤ T.toInt) (ht : t.toInt ≤ 519) : pm_Seg c' v' T f t := by
  obtain ⟨f1, f2, f3, f4⟩ := h.1
  have r := h.2 0 (Int.le_refl _) (by omega)
  exact ⟨by omega, by omega, ht, 0 + k, r.cast (by omega) (by omega) rfl⟩
theorem pm_Seg.fr {T f t : Int32} {c v s c' v' s' : Nat → Int32} (h : pm_Seg c v T f t) (hF : pm_F T c v s c' v' s') (h0 : 0 ≤ T.toInt) (ht : t.toInt ≤ pm_x s T) : pm_Seg c' v' T f t := by
  obtain ⟨q1, q2, q3, z, q⟩ := h
  exact ⟨q1, q2, q3, z, pm_Run.ext _ _ _ _ q (fun j a b => hF.2.2.1 j (by omega))⟩
def pm_Rw (T : Int32) (c v s cl tf sf st : Nat → Int32) : Prop := ∀ j : Nat, j < (pm_x cl T).toNat → pm_Seg c v T (tf (140 * T.toInt.toNat + j)) (sf (140 * T.toInt.toNat + j)) ∧ pm_Seg c v T (sf (140 * T.toInt.toNat + j)) (st (140 * T.toInt.toNat + j)) ∧ (st (140 * T.toInt.toNat + j)).toInt ≤ pm_x s T
theorem pm_Rw.zero {T : Int32} {c v s cl tf sf st : Nat → Int32} (h : pm_x cl T = 0) : pm_Rw T c v s cl tf sf st := fun j hj => by omega
theorem pm_Rw.add {T k a b d : Int32} {c v s cl tf sf st c' v' s' cl' tf' sf' st' : Nat → Int32} (h : pm_Rw T c v s cl tf sf st) (hF : pm_F T c v s c' v' s') (hk1 : tf' (Int32.toNatClampNeg k) = a) (hk2 : sf' (Int32.toNatClampNeg k) = b) (hk3 : st' (Int32.toNatClampNeg k) = d) (ho1 : ∀ j : Nat, ¬ j = Int32.toNatClampNeg k → tf' j = tf j) (ho2 : ∀ j : Nat, ¬ j = Int32.toNatClampNeg k → sf' j = sf j) (ho3 : ∀ j : Nat, ¬ j = Int32.toNatClampNeg k → st' j = st j) (ek : k.toInt = 140 * T.toInt + pm_x cl T) (h0 : 0 ≤ T.toInt) (h1 : 0 ≤ pm_x cl T) (hc : pm_x cl' T = pm_x cl T + 1) (s1 : pm_Seg c' v' T a b) (s2 : pm_Seg c' v' T b d) (hd : d.toInt ≤ pm_x s' T) : pm_Rw T c' v' s' cl' tf' sf' st' := by
  have e := pm_ix (n := 140 * T.toInt.toNat + (pm_x cl T).toNat) ek (by omega)
  intro j hj
  by_cases q : j = (pm_x cl T).toNat
  · subst q
    rw [← e, hk1, hk2, hk3]
    exact ⟨s1, s2, hd⟩
  · obtain ⟨a1, a2, a3⟩ := h j (by omega)
    have hx := hF.1
    have z : ¬ 140 * T.toInt.toNat + j = Int32.toNatClampNeg k := by omega
    rw [ho1 _ z, ho2 _ z, ho3 _ z]
    obtain ⟨b1, b2, b3, b4⟩ := a2
    exact ⟨a1.fr hF h0 (by omega), (show pm_Seg c v T _ _ from ⟨b1, b2, b3, b4⟩).fr hF h0 a3, by omega⟩
def pm_Oth (T : Int32) (c v cl tf sf st c' v' cl' tf' sf' st' : Nat → Int32) : Prop := (∀ j : Nat, j < 520 * T.toInt.toNat ∨ 520 * T.toInt.toNat + 520 ≤ j → c' j = c j ∧ v' j = v j) ∧ (∀ j : Nat, ¬ j = T.toInt.toNat → cl' j = cl j) ∧ ∀ j : Nat, j < 140 * T.toInt.toNat ∨ 140 * T.toInt.toNat + 140 ≤ j → tf' j = tf j ∧ sf' j = sf j ∧ st' j = st j
theorem pm_Oth.refl (T : Int32) (c v cl tf sf st : Nat → Int32) : pm_Oth T c v cl tf sf st c v cl tf sf st := ⟨fun _ _ => ⟨rfl, rfl⟩, fun _ _ => rfl, fun _ _ => ⟨rfl, rfl, rfl⟩⟩
theorem pm_Oth.app {T : Int32} {c v cl tf sf st c' v' cl' tf' sf' st' c'' v'' cl'' tf'' sf'' st'' : Nat → Int32} (h : pm_Oth T c v cl tf sf st c' v' cl' tf' sf' st') (g : pm_Oth T c' v' cl' tf' sf' st' c'' v'' cl'' tf'' sf'' st'') : pm_Oth T c v cl tf sf st c'' v'' cl'' tf'' sf'' st'' := by
  refine ⟨fun j q => ?_, fun j q => by rw [g.2.1 j q, h.2.1 j q], fun j q => ?_⟩
  · obtain ⟨a, b⟩ := g.1 j q; obtain ⟨a', b'⟩ := h.1 j q; exact ⟨by rw [a, a'], by rw [b, b']⟩
  · obtain ⟨a, b, d⟩ := g.2.2 j q; obtain ⟨a', b', d'⟩ := h.2.2 j q; exact ⟨by rw [a, a'], by rw [b, b'], by rw [d, d']⟩
theorem pm_Oth.mk {T k : Int32} {c v s cl tf sf st c' v' s' cl' tf' sf' st' : Nat → Int32} (hF : pm_F T c v s c' v' s') (ho1 : ∀ j : Nat, ¬ j = Int32.toNatClampNeg k → tf' j = tf j) (ho2 : ∀ j : Nat, ¬ j = Int32.toNatClampNeg k → sf' j = sf j) (ho3 : ∀ j : Nat, ¬ j = Int32.toNatClampNeg k → st' j = st j) (ho4 : ∀ j : Nat, ¬ j = Int32.toNatClampNeg T → cl' j = cl j) (ek : k.toInt = 140 * T.toInt + pm_x cl T) (h0 : 0 ≤ T.toInt) (h1 : 0 ≤ pm_x cl T) (h2 : pm_x cl T ≤ 139) : pm_Oth T c v cl tf sf st c' v' cl' tf' sf' st' := by
  have e := pm_ix (n := 140 * T.toInt.toNat + (pm_x cl T).toNat) ek (by omega)
  have eT : Int32.toNatClampNeg T = T.toInt.toNat := pm_ix rfl (by omega)
  have hx := hF.2.1
  refine ⟨fun j q => hF.2.2.1 j (by omega), fun j q => ho4 j (by omega), fun j q => ⟨ho1 j (by omega), ho2 j (by omega), ho3 j (by omega)⟩⟩
theorem pm_Row.oth {T n : Int32} {c v cl tf sf st c' v' cl' tf' sf' st' : Nat → Int32} (h : pm_Row n c v cl tf sf st) (g : pm_Oth T c v cl tf sf st c' v' cl' tf' sf' st') (h0 : 0 ≤ T.toInt) (h1 : 0 ≤ n.toInt) (hn : ¬ n.toInt = T.toInt) : pm_Row n c' v' cl' tf' sf' st' := by
  have z : cl' n.toInt.toNat = cl n.toInt.toNat := g.2.1 _ (by omega)
  unfold pm_Row
  rw [z]
  refine ⟨h.1, fun j hj => ?_⟩
  have hc := h.1
  obtain ⟨a, b⟩ := h.2 j hj
  obtain ⟨e1, e2, e3⟩ := g.2.2 (140 * n.toInt.toNat + j) (by omega)
  rw [e1, e2, e3]
  have ex : ∀ f t : Int32, pm_Seg c v n f t → pm_Seg c' v' n f t := fun f t q => by
    obtain ⟨q1, q2, q3, z, q⟩ := q
    exact ⟨q1, q2, q3, z, pm_Run.ext _ _ _ _ q (fun j a b => g.1 j (by omega))⟩
  exact ⟨ex _ _ a, ex _ _ b⟩
theorem pm_Rw.row {T : Int32} {c v s cl tf sf st : Nat → Int32} (h : pm_Rw T c v s cl tf sf st) (h0 : 0 ≤ T.toInt) (h1 : 0 ≤ pm_x cl T) (h2 : pm_x cl T ≤ 139) : pm_Row T c v cl tf sf st := by
  have eT : Int32.toNatClampNeg T = T.toInt.toNat := pm_ix rfl (by omega)
  unfold pm_x at h1 h2
  rw [eT] at h1 h2
  refine ⟨⟨h1, h2⟩, fun j hj => ?_⟩
  obtain ⟨a, b, _⟩ := h j (by unfold pm_x; rw [eT]; exact hj)
  exact ⟨a, b⟩
def pm_Laws (n : Int32) (c v cl tf sf st : Nat → Int32) : Prop := ∀ m : Int32, 0 ≤ m.toInt → m.toInt < n.toInt → pm_Row m c v cl tf sf st
theorem pm_x.z {s s' : Nat → Int32} {T : Int32} (e : s' = upd s (Int32.toNatClampNeg T) 0) : pm_x s' T = 0 := by
  subst e
  show (upd _ _ _ _).toInt = 0
  rw [pk_us]
  decide
theorem pm_x.o {s s' : Nat → Int32} {T : Int32} (e : s' = upd s (Int32.toNatClampNeg T) 0) : ∀ j : Nat, ¬ j = Int32.toNatClampNeg T → s' j = s j := fun j h => by rw [e, pk_un h]
theorem pm_Oth.cl {T : Int32} {c v cl tf sf st cl' : Nat → Int32} (h : ∀ j : Nat, ¬ j = Int32.toNatClampNeg T → cl' j = cl j) (h0 : 0 ≤ T.toInt) : pm_Oth T c v cl tf sf st c v cl' tf sf st := by
  have eT : Int32.toNatClampNeg T = T.toInt.toNat := pm_ix rfl (by omega)
  exact ⟨fun _ _ => ⟨rfl, rfl⟩, fun j q => h j (by omega), fun _ _ => ⟨rfl, rfl, rfl⟩⟩
/-! the office's text -/
def pm_los (k : Int) : Int := if k = 0 then 1 else if k = 1 then 1 else 0
def pm_his (k : Int) : Int := if k = 0 then 60 else if k = 1 then 5 else if k = 2 then 9 else 99
def pm_lob (k : Int) : Int := if k = 0 then 1 else 0
def pm_hib (k : Int) : Int := if k = 0 then 30 else if k = 3 then 4 else if k = 4 then 1 else 9
def pm_RR (f : Nat → Int32) : Prop := (1 ≤ (f 1).toInt ∧ (f 1).toInt ≤ 5) ∧ 0 ≤ (f 0).toInt
theorem pm_RR.ru {f : Nat → Int32} (h : pm_RR f) : pm_RU f := ⟨⟨by have := h.1.1; omega, h.1.2⟩, h.2⟩
theorem pm_RR.init {f0 f1 f2 f3 f4 : Nat → Int32} {i0 i1 i2 i3 a2 a3 : Int32} (e4 : f4 = upd f3 (Int32.toNatClampNeg i3) a3) (e3 : f3 = upd f2 (Int32.toNatClampNeg i2) a2) (e2 : f2 = upd f1 (Int32.toNatClampNeg i1) 3) (e1 : f1 = upd f0 (Int32.toNatClampNeg i0) 20) (h0 : i0.toInt = 0) (h1 : i1.toInt = 1) (h2 : i2.toInt = 2) (h3 : i3.toInt = 3) : pm_RR f4 := by
  rw [pm_ix (n := 0) h0 rfl] at e1
  rw [pm_ix (n := 1) h1 rfl] at e2
  rw [pm_ix (n := 2) h2 rfl] at e3
  rw [pm_ix (n := 3) h3 rfl] at e4
  have a : f4 1 = 3 := by rw [e4, pk_un (by decide), e3, pk_un (by decide), e2, pk_us]
  have b : f4 0 = 20 := by rw [e4, pk_un (by decide), e3, pk_un (by decide), e2, pk_un (by decide), e1, pk_us]
  unfold pm_RR
  rw [a, b]
  decide
theorem pm_RR.step {f f' : Nat → Int32} {i v k lo hi : Int32} (e : f' = upd f (Int32.toNatClampNeg i) v) (h : pm_RR f) (el : lo.toInt = pm_los k.toInt) (eh : hi.toInt = pm_his k.toInt) (hl : lo.toInt ≤ v.toInt ∧ v.toInt ≤ hi.toInt) (ei : i.toInt = k.toInt) (h0 : 0 ≤ k.toInt) (h4 : k.toInt ≤ 4) : pm_RR f' := by
  subst e
  obtain ⟨⟨q1, q2⟩, q3⟩ := h
  unfold pm_los at el
  unfold pm_his at eh
  refine ⟨?_, ?_⟩
  · rcases pm_uq (f := f) (v := v) (n := 1) (i := i) (by omega) with ⟨a, b⟩ | ⟨a, b⟩ <;> rw [b]
    · have hk : k.toInt = 1 := by omega
      rw [if_neg (by omega), if_pos hk] at el eh
      constructor <;> omega
    · exact ⟨q1, q2⟩
  · rcases pm_uq (f := f) (v := v) (n := 0) (i := i) (by omega) with ⟨a, b⟩ | ⟨a, b⟩ <;> rw [b]
    · have hk : k.toInt = 0 := by omega
      rw [if_pos hk] at el
      omega
    · exact q3
theorem pm_RR.cp {c f g : Nat → Int32} {n : Nat} (h : pm_RR f) (e : c = va_cpy f g 0 0 n) (hn : n = 4) : pm_RR c := by
  have z : ∀ j : Nat, j < 4 → c j = f j := fun j hj => by
    rw [e, pk_cpy_in (by omega) (by omega)]
    congr 1
    omega
  unfold pm_RR
  rw [z 0 (by decide), z 1 (by decide)]
  exact h
def pm_bb (m : Int32) (g f : Nat → Int32) : Prop := ((1 ≤ (f m.toInt.toNat).toInt ∧ (f m.toInt.toNat).toInt ≤ 99) ∧ 0 ≤ (f (m.toInt.toNat + 4)).toInt ∧ (f (m.toInt.toNat + 4)).toInt ≤ 1) ∧ ∀ j : Nat, j < m.toInt.toNat → f j = g j
theorem pm_bb.init {m : Int32} {f0 f1 f2 f3 f4 f5 : Nat → Int32} {i0 i1 i2 i3 i4 a1 a2 a3 : Int32} (e5 : f5 = upd f4 (Int32.toNatClampNeg i4) 0) (e4 : f4 = upd f3 (Int32.toNatClampNeg i3) a3) (e3 : f3 = upd f2 (Int32.toNatClampNeg i2) a2) (e2 : f2 = upd f1 (Int32.toNatClampNeg i1) a1) (e1 : f1 = upd f0 (Int32.toNatClampNeg i0) 3) (h0 : i0.toInt = m.toInt) (h1 : i1.toInt = m.toInt + 1) (h2 : i2.toInt = m.toInt + 2) (h3 : i3.toInt = m.toInt + 3) (h4 : i4.toInt = m.toInt + 4) (hm : 0 ≤ m.toInt) : pm_bb m f0 f5 := by
  rw [pm_ix (n := m.toInt.toNat) h0 (by omega)] at e1
  rw [pm_ix (n := m.toInt.toNat + 1) h1 (by omega)] at e2
  rw [pm_ix (n := m.toInt.toNat + 2) h2 (by omega)] at e3
  rw [pm_ix (n := m.toInt.toNat + 3) h3 (by omega)] at e4
  rw [pm_ix (n := m.toInt.toNat + 4) h4 (by omega)] at e5
  refine ⟨⟨?_, ?_⟩, fun j hj => ?_⟩
  · have a : f5 m.toInt.toNat = 3 := by rw [e5, pk_un (by omega), e4, pk_un (by omega), e3, pk_un (by omega), e2, pk_un (by omega), e1, pk_us]
    rw [a]
    decide
  · have a : f5 (m.toInt.toNat + 4) = 0 := by rw [e5, pk_us]
    rw [a]
    decide
  · rw [e5, pk_un (by omega), e4, pk_un (by omega), e3, pk_un (by omega), e2, pk_un (by omega), e1, pk_un (by omega)]
theorem pm_bb.step {m : Int32} {g f f' : Nat → Int32} {i v k lo hi : Int32} (e : f' = upd f (Int32.toNatClampNeg i) v) (h : pm_bb m g f) (el : lo.toInt = pm_lob k.toInt) (eh : hi.toInt = pm_hib k.toInt) (hl : lo.toInt ≤ v.toInt ∧ v.toInt ≤ hi.toInt) (ei : i.toInt = m.toInt + k.toInt) (h0 : 0 ≤ k.toInt) (h4 : k.toInt ≤ 4) (hm : 0 ≤ m.toInt) : pm_bb m g f' := by
  subst e
  obtain ⟨⟨q1, q2⟩, q3⟩ := h
  unfold pm_lob at el
  unfold pm_hib at eh
  refine ⟨⟨?_, ?_⟩, fun j hj => ?_⟩
  · rcases pm_uq (f := f) (v := v) (n := m.toInt.toNat) (i := i) (by omega) with ⟨a, b⟩ | ⟨a, b⟩ <;> rw [b]
    · have hk : k.toInt = 0 := by omega
      rw [if_pos hk] at el eh
      constructor <;> omega
    · exact q1
  · rcases pm_uq (f := f) (v := v) (n := m.toInt.toNat + 4) (i := i) (by omega) with ⟨a, b⟩ | ⟨a, b⟩ <;> rw [b]
    · have hk : k.toInt = 4 := by omega
      rw [if_neg (by omega)] at el
      rw [if_neg (by omega), if_neg (by omega), if_pos hk] at eh
      constructor <;> omega
    · exact q2
  · rcases pm_uq (f := f) (v := v) (n := j) (i := i) (by omega) with ⟨a, b⟩ | ⟨a, b⟩
    · omega
    · rw [b]; exact q3 j hj
theorem pm_BG.zero {n : Int32} {f : Nat → Int32} (h : n.toInt = 0) : pm_BG n f := fun b h1 h2 => by omega
theorem pm_BG.add {n n' m : Int32} {f f' : Nat → Int32} (hb : pm_bb m f f') (h : pm_BG n f) (hn : n'.toInt = n.toInt + 1) (hm : m.toInt = 5 * n.toInt) (h0 : 0 ≤ n.toInt) (h7 : n.toInt ≤ 7) : pm_BG n' f' := by
  intro b h1 h2
  obtain ⟨⟨q1, q2⟩, q3⟩ := hb
  unfold pm_bg
  by_cases e : b.toInt = n.toInt
  · rw [show 5 * b.toInt.toNat = m.toInt.toNat by omega]
    exact ⟨q1, q2⟩
  · rw [q3 (5 * b.toInt.toNat) (by omega), q3 (5 * b.toInt.toNat + 4) (by omega)]
    exact h b h1 (by omega)
theorem pm_BG.cp {n : Int32} {c f g : Nat → Int32} {k : Nat} (h : pm_BG n f) (e : c = va_cpy f g 0 0 k) (hk : k = 40) (h8 : n.toInt ≤ 8) : pm_BG n c := by
  have z : ∀ j : Nat, j < 40 → c j = f j := fun j hj => by
    rw [e, pk_cpy_in (by omega) (by omega)]
    congr 1
    omega
  intro b h1 h2
  unfold pm_bg
  rw [z (5 * b.toInt.toNat) (by omega), z (5 * b.toInt.toNat + 4) (by omega)]
  exact h b h1 h2
def pm_zr (f : Nat → Int32) (n : Nat) : Prop := ∀ j : Nat, j < n → f j = 0
theorem pm_zr.zero {f : Nat → Int32} {n : Nat} (h : n = 0) : pm_zr f n := fun j hj => by omega
theorem pm_zr.step {f f' : Nat → Int32} {k : Int32} {n : Nat} (e : f' = upd f (Int32.toNatClampNeg k) 0) (h : pm_zr f k.toInt.toNat) (hn : n = k.toInt.toNat + 1) (h0 : 0 ≤ k.toInt) : pm_zr f' n := by
  subst e
  intro j hj
  rcases pm_uq (f := f) (v := 0) (n := j) (i := k) h0 with ⟨a, b⟩ | ⟨a, b⟩ <;> rw [b]
  exact h j (by omega)
theorem pm_zr.nw {f : Nat → Int32} {n : Nat} (h : pm_zr f n) (hn : 247 ≤ n) : pm_NW f := by
  refine ⟨⟨fun b hb => ?_, ?_⟩, fun b hb => ?_⟩
  · rw [h (8 * b) (by omega), h (8 * b + 4) (by omega)]; decide
  · rw [h 66 (by omega)]; decide
  · rw [h (8 * b + 7) (by omega)]; exact fun q => absurd q (by decide)
theorem pm_Laws.oth {n T : Int32} {c v cl tf sf st c' v' cl' tf' sf' st' : Nat → Int32} (ho : pm_Oth T c v cl tf sf st c' v' cl' tf' sf' st') (h : pm_Laws n c v cl tf sf st) (hT : n.toInt ≤ T.toInt) (h0 : 0 ≤ n.toInt) : pm_Laws n c' v' cl' tf' sf' st' :=
  fun m h1 h2 => (h m h1 h2).oth ho (by omega) h1 (by omega)
theorem pm_Laws.add {n n' T : Int32} {c v cl tf sf st c' v' cl' tf' sf' st' : Nat → Int32} (hr : pm_Row T c' v' cl' tf' sf' st') (ho : pm_Oth T c v cl tf sf st c' v' cl' tf' sf' st') (h : pm_Laws n c v cl tf sf st) (eT : T.toInt = n.toInt) (hn : n'.toInt = n.toInt + 1) (h0 : 0 ≤ n.toInt) : pm_Laws n' c' v' cl' tf' sf' st' := by
  intro m h1 h2
  by_cases e : m.toInt = T.toInt
  · rw [Int32.toInt_inj.mp e]; exact hr
  · exact (h m h1 (by omega)).oth ho (by omega) h1 e
theorem pm_Laws.held {n h : Int32} {c v cl tf sf st : Nat → Int32} (q : pm_Laws n c v cl tf sf st) (hh : h.toInt < n.toInt) : pm_Held h c v cl tf sf st := fun h0 => q h h0 hh
/-! feed: as many bytes are written as were counted -/
def pm_b1 (w k : Int32) : Int32 := (w >>> ((24 - 8 * (k - k / 4 * 4)) &&& 31)) &&& 255
def pm_by (a b c d e k : Int32) : Int32 := if k.toInt < 4 then pm_b1 a k else if k.toInt < 8 then pm_b1 b k else if k.toInt < 12 then pm_b1 c k else if k.toInt < 16 then pm_b1 d k else pm_b1 e k
def pm_cn (F : Int32 → Int32) : Nat → Int
  | 0 => 0
  | n + 1 => pm_cn F n + (if F (nI n) = 0 then 0 else 1)
theorem pm_cn.succ {F : Int32 → Int32} {k : Int32} (h0 : 0 ≤ k.toInt) : pm_cn F (k.toInt.toNat + 1) = pm_cn F k.toInt.toNat + (if F k = 0 then 0 else 1) := by
  obtain ⟨j, hj, rfl⟩ := nI_of (pv_nn h0)
  rw [nI_toInt hj, Int.toNat_natCast]
  rfl
theorem pm_cn.mono {F : Int32 → Int32} : ∀ (d n : Nat), pm_cn F n ≤ pm_cn F (n + d)
  | 0, _ => Int.le_refl _
  | d + 1, n => by
    have h := pm_cn.mono (F := F) d n
    have e : pm_cn F (n + (d + 1)) = pm_cn F (n + d) + (if F (nI (n + d)) = 0 then 0 else 1) := rfl
    rw [e]
    split <;> omega
theorem pm_cn.zero {F : Int32 → Int32} {n : Int} {m : Nat} (h : n = 0) (hm : m = 0) : n = pm_cn F m := by
  subst hm; exact h
theorem pm_cn.one {F : Int32 → Int32} {k r : Int32} {n n' : Int} {m : Nat} (h : n = pm_cn F k.toInt.toNat) (hr : r = F k) (hc : ¬ r.toInt = 0) (hm : m = k.toInt.toNat + 1) (hn : n' = n + 1) (h0 : 0 ≤ k.toInt) : n' = pm_cn F m := by
  have hz : ¬ F k = 0 := fun q => hc (by rw [hr, q]; decide)
  rw [hm, pm_cn.succ h0, if_neg hz]
  omega
theorem pm_cn.no {F : Int32 → Int32} {k r : Int32} {n n' : Int} {m : Nat} (h : n = pm_cn F k.toInt.toNat) (hr : r = F k) (hc : r.toInt = 0) (hm : m = k.toInt.toNat + 1) (hn : n' = n) (h0 : 0 ≤ k.toInt) : n' = pm_cn F m := by
  have hz : F k = 0 := by rw [← hr]; exact Int32.toInt_inj.mp (hc.trans (by decide))
  rw [hm, pm_cn.succ h0, if_pos hz]
  omega
def pm_fl (F : Int32 → Int32) (s : Int) (m : Nat) : Prop := 0 ≤ s ∧ s + pm_cn F 20 - pm_cn F m ≤ 240
theorem pm_fl.one {F : Int32 → Int32} {k r : Int32} {s s' : Int} {m : Nat} (h : pm_fl F s k.toInt.toNat) (hr : r = F k) (hc : ¬ r.toInt = 0) (hm : m = k.toInt.toNat + 1) (hs : s' = s + 1) (h0 : 0 ≤ k.toInt) : pm_fl F s' m := by
  have e := pm_cn.one (n := pm_cn F k.toInt.toNat) rfl hr hc hm rfl h0
  obtain ⟨a, b⟩ := h
  exact ⟨by omega, by omega⟩
theorem pm_fl.no {F : Int32 → Int32} {k r : Int32} {s s' : Int} {m : Nat} (h : pm_fl F s k.toInt.toNat) (hr : r = F k) (hc : r.toInt = 0) (hm : m = k.toInt.toNat + 1) (hs : s' = s) (h0 : 0 ≤ k.toInt) : pm_fl F s' m := by
  have e := pm_cn.no (n := pm_cn F k.toInt.toNat) rfl hr hc hm rfl h0
  obtain ⟨a, b⟩ := h
  exact ⟨by omega, by omega⟩
theorem pm_fl.start {F : Int32 → Int32} {k : Int32} {n t s : Int} {m : Nat} (h : n = pm_cn F k.toInt.toNat) (hk : k.toInt = 20) (ht : t = s + n) (hle : t ≤ 240) (h0 : 0 ≤ s) (hm : m = 0) : pm_fl F s m := by
  subst hm
  rw [hk] at h
  have h : n = pm_cn F 20 := h
  have z : pm_cn F 0 = 0 := rfl
  exact ⟨h0, by omega⟩
theorem pm_fl.lt {F : Int32 → Int32} {k r : Int32} {s : Int} (h : pm_fl F s k.toInt.toNat) (hr : r = F k) (hc : ¬ r.toInt = 0) (h0 : 0 ≤ k.toInt) (h20 : k.toInt ≤ 19) : s ≤ 239 := by
  have e := pm_cn.one (n := pm_cn F k.toInt.toNat) (m := k.toInt.toNat + 1) rfl hr hc rfl rfl h0
  have mo := pm_cn.mono (F := F) (20 - (k.toInt.toNat + 1)) (k.toInt.toNat + 1)
  rw [show k.toInt.toNat + 1 + (20 - (k.toInt.toNat + 1)) = 20 by omega] at mo
  obtain ⟨a, b⟩ := h
  omega
theorem pm_cn.bd {F : Int32 → Int32} {n : Int} {k : Nat} (h : n = pm_cn F k) : 0 ≤ n ∧ n ≤ (k : Int) := by
  subst h
  induction k with
  | zero => exact ⟨Int.le_refl _, Int.le_refl _⟩
  | succ k ih =>
    show 0 ≤ pm_cn F k + (if F (nI k) = 0 then 0 else 1) ∧ pm_cn F k + (if F (nI k) = 0 then 0 else 1) ≤ ((k + 1 : Nat) : Int)
    split <;> omega
