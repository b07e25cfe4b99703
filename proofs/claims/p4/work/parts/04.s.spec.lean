/-! the grammar of laws, told once: (true, p): taken, the finger stands at p; (false, p): wrong at p -/
section PG
variable {T : Nat → Int32} {n : Int}
def pg_ch (T : Nat → Int32) (n a : Int) : Int := if a < n then (T a.toNat).toInt else -1
theorem pg_ch.on {a : Int} (h : a < n) : pg_ch T n a = (T a.toNat).toInt := if_pos h
theorem pg_ch.off {a : Int} (h : n ≤ a) : pg_ch T n a = -1 := if_neg (Int.not_lt.mpr h)
def pg_sk (T : Nat → Int32) (n : Int) : Nat → Int → Int
  | 0, a => a
  | f + 1, a => if pg_ch T n a = 32 then pg_sk T n f (a + 1) else a
def pg_s (T : Nat → Int32) (n a : Int) : Int := pg_sk T n 300 a
/-- all from a on up to b are blanks -/
def pg_Bl (T : Nat → Int32) (n a b : Int) : Prop := a ≤ b ∧ ∀ j, a ≤ j → j < b → pg_ch T n j = 32
theorem pg_Bl.refl (a : Int) : pg_Bl T n a a := ⟨Int.le_refl _, fun j h1 h2 => absurd h1 (Int.not_le.mpr h2)⟩
theorem pg_Bl.next {a b c : Int} (h : pg_Bl T n a b) (hb : pg_ch T n b = 32) (hc : c = b + 1) : pg_Bl T n a c := by
  refine ⟨by have := h.1; omega, fun j h1 h2 => ?_⟩
  rcases (show j < b ∨ j = b by omega) with e | e
  · exact h.2 j h1 e
  · rw [e]; exact hb
theorem pg_Bl.sk : ∀ (f : Nat) {a b : Int}, pg_Bl T n a b → ¬ pg_ch T n b = 32 → b - a ≤ (f : Int) → pg_sk T n f a = b
  | 0, a, b, h, _, hf => by
    have h1 := h.1
    show a = b
    omega
  | f + 1, a, b, h, hn, hf => by
    show (if pg_ch T n a = 32 then pg_sk T n f (a + 1) else a) = b
    have h1 := h.1
    rcases (show a = b ∨ a < b by omega) with e | e
    · rw [e, if_neg hn]
    · rw [if_pos (h.2 a (Int.le_refl _) e)]
      exact pg_Bl.sk f ⟨by omega, fun j h1 h2 => h.2 j (by omega) h2⟩ hn (by omega)
theorem pg_Bl.eq {a b : Int} (h : pg_Bl T n a b) (hn : ¬ pg_ch T n b = 32) (h0 : 0 ≤ a) (h2 : n ≤ 240) : pg_s T n a = b := by
  refine pg_Bl.sk 300 h hn ?_
  have h1 := h.1
  rcases (show b = a ∨ a < b by omega) with e | e
  · omega
  · have h3 := h.2 (b - 1) (by omega) (by omega)
    rcases (show b - 1 < n ∨ n ≤ b - 1 by omega) with e2 | e2
    · omega
    · rw [pg_ch.off e2] at h3
      exact absurd h3 (by decide)
theorem pg_s.here {a : Int} (h : ¬ pg_ch T n a = 32) : pg_s T n a = a := if_neg h
def pg_bind (r : Bool × Int) (f : Int → Bool × Int) : Bool × Int := match r with | (true, e) => f e | (false, p) => (false, p)
theorem pg_bind.ok {r : Bool × Int} {f : Int → Bool × Int} {e : Int} (h : r = (true, e)) : pg_bind r f = f e := by rw [h]; rfl
theorem pg_bind.no {r : Bool × Int} {f : Int → Bool × Int} {p : Int} (h : r = (false, p)) : pg_bind r f = (false, p) := by rw [h]; rfl
def pg_take (T : Nat → Int32) (n c a : Int) : Bool × Int := if pg_ch T n (pg_s T n a) = c then (true, pg_s T n a + 1) else (false, pg_s T n a)
theorem pg_take.ok {c a b x : Int} (hs : pg_s T n a = b) (hc : pg_ch T n b = c) (hx : x = b + 1) : pg_take T n c a = (true, x) := by
  unfold pg_take; rw [hs, if_pos hc, hx]
theorem pg_take.no {c a b p : Int} (hs : pg_s T n a = b) (hc : ¬ pg_ch T n b = c) (hp : p = b) : pg_take T n c a = (false, p) := by
  unfold pg_take; rw [hs, if_neg hc, hp]
theorem pg_take.inv1 {c b x : Int} (hn : ¬ pg_ch T n b = 32) (h : pg_take T n c b = (true, x)) : pg_ch T n b = c ∧ x = b + 1 := by
  unfold pg_take at h; rw [pg_s.here hn] at h
  by_cases e : pg_ch T n b = c
  · rw [if_pos e] at h; exact ⟨e, (congrArg Prod.snd h).symm⟩
  · rw [if_neg e] at h; exact absurd (show false = true from congrArg Prod.fst h) (by decide)
theorem pg_take.inv0 {c b p : Int} (hn : ¬ pg_ch T n b = 32) (h : pg_take T n c b = (false, p)) : ¬ pg_ch T n b = c ∧ p = b := by
  unfold pg_take at h; rw [pg_s.here hn] at h
  by_cases e : pg_ch T n b = c
  · rw [if_pos e] at h; exact absurd (show true = false from congrArg Prod.fst h) (by decide)
  · rw [if_neg e] at h; exact ⟨e, (congrArg Prod.snd h).symm⟩
def pg_nm (T : Nat → Int32) (n : Int) : Nat → Int → Bool × Int
  | 0, a => if 48 ≤ pg_ch T n a ∧ pg_ch T n a ≤ 57 then (false, a) else (true, a)
  | k + 1, a => if 48 ≤ pg_ch T n a ∧ pg_ch T n a ≤ 57 then pg_nm T n k (a + 1) else (true, a)
theorem pg_nm.step {k : Nat} {a x : Int} (h1 : 48 ≤ pg_ch T n a) (h2 : pg_ch T n a ≤ 57) (hx : x = a + 1) : pg_nm T n (k + 1) a = pg_nm T n k x := by
  rw [hx]; exact if_pos ⟨h1, h2⟩
theorem pg_nm.stop {k : Nat} {a : Int} (h : ¬ (48 ≤ pg_ch T n a ∧ pg_ch T n a ≤ 57)) : pg_nm T n k a = (true, a) := by
  cases k <;> exact if_neg h
theorem pg_nm.nn {a b w : Int} {q : Prop} (hs : pg_s T n a = b) (h : ¬ (48 ≤ pg_ch T n b ∧ pg_ch T n b ≤ 57)) (hw : w = b) : (¬ (48 ≤ pg_ch T n (pg_s T n a) ∧ pg_ch T n (pg_s T n a) ≤ 57) ∧ w = pg_s T n a) ∨ q := by
  rw [hs]; exact Or.inl ⟨h, hw⟩
theorem pg_nm.over {a p : Int} (h1 : 48 ≤ pg_ch T n a) (h2 : pg_ch T n a ≤ 57) (hp : p = a) : pg_nm T n 0 a = (false, p) := by
  rw [hp]; exact if_pos ⟨h1, h2⟩
/-! rows of the same, with signs u or v between -/
def pg_loop (T : Nat → Int32) (n u v : Int) (F : Int → Bool × Int) : Nat → Int → Bool × Int
  | 0, a => (true, pg_s T n a)
  | f + 1, a => if pg_ch T n (pg_s T n a) = u ∨ pg_ch T n (pg_s T n a) = v then pg_bind (F (pg_s T n a + 1)) (pg_loop T n u v F f) else (true, pg_s T n a)
theorem pg_loop.stop {u v : Int} {F : Int → Bool × Int} {f : Nat} {a b : Int} (hs : pg_s T n a = b) (h : ¬ (pg_ch T n b = u ∨ pg_ch T n b = v)) : pg_loop T n u v F f a = (true, b) := by
  cases f with
  | zero => show (true, pg_s T n a) = _; rw [hs]
  | succ f =>
    show (if pg_ch T n (pg_s T n a) = u ∨ pg_ch T n (pg_s T n a) = v then _ else _) = _
    rw [hs, if_neg h]
theorem pg_loop.step {u v : Int} {F : Int → Bool × Int} {f : Nat} {a b x : Int} (hf : 0 < f) (hs : pg_s T n a = b) (h : pg_ch T n b = u ∨ pg_ch T n b = v) (hx : x = b + 1) : pg_loop T n u v F f a = pg_bind (F x) (pg_loop T n u v F (f - 1)) := by
  cases f with
  | zero => exact absurd hf (Nat.lt_irrefl _)
  | succ f =>
    show (if pg_ch T n (pg_s T n a) = u ∨ pg_ch T n (pg_s T n a) = v then _ else _) = _
    rw [hs, if_pos h, hx]; rfl
/-- r is what the loop at a gives; its steps are enough -/
def pg_L (T : Nat → Int32) (n u v : Int) (F : Int → Bool × Int) (a : Int) (r : Bool × Int) : Prop := ∃ f : Nat, 300 ≤ (f : Int) + a ∧ r = pg_loop T n u v F f a
theorem pg_L.of {u v : Int} {F : Int → Bool × Int} {a : Int} {r : Bool × Int} (h0 : 0 ≤ a) (h : r = pg_loop T n u v F 300 a) : pg_L T n u v F a r := ⟨300, by omega, h⟩
theorem pg_L.mv {u v : Int} {F : Int → Bool × Int} {a b : Int} {r : Bool × Int} (h : pg_L T n u v F a r) (hs : pg_s T n a = b) (hs2 : pg_s T n b = b) (hb : a ≤ b) : pg_L T n u v F b r := by
  obtain ⟨f, h1, h2⟩ := h
  refine ⟨f, by omega, h2.trans ?_⟩
  cases f with
  | zero => show (true, pg_s T n a) = (true, pg_s T n b); rw [hs, hs2]
  | succ f =>
    show (if pg_ch T n (pg_s T n a) = u ∨ pg_ch T n (pg_s T n a) = v then pg_bind (F (pg_s T n a + 1)) (pg_loop T n u v F f) else (true, pg_s T n a)) = (if pg_ch T n (pg_s T n b) = u ∨ pg_ch T n (pg_s T n b) = v then pg_bind (F (pg_s T n b + 1)) (pg_loop T n u v F f) else (true, pg_s T n b))
    rw [hs, hs2]
theorem pg_L.stop {u v : Int} {F : Int → Bool × Int} {a b : Int} {r : Bool × Int} (h : pg_L T n u v F a r) (hs : pg_s T n a = b) (hc : ¬ (pg_ch T n b = u ∨ pg_ch T n b = v)) : r = (true, b) := by
  obtain ⟨f, _, h2⟩ := h
  rw [h2]; exact pg_loop.stop hs hc
theorem pg_L.step {u v : Int} {F : Int → Bool × Int} {a b x e : Int} {r : Bool × Int} (h : pg_L T n u v F a r) (ha : a ≤ 240) (hs : pg_s T n a = b) (hc : pg_ch T n b = u ∨ pg_ch T n b = v) (hx : x = b + 1) (hF : F x = (true, e)) (he : a < e) : pg_L T n u v F e r := by
  obtain ⟨f, h1, h2⟩ := h
  rw [pg_loop.step (by omega) hs hc hx, pg_bind.ok hF] at h2
  exact ⟨f - 1, by omega, h2⟩
theorem pg_L.no {u v : Int} {F : Int → Bool × Int} {a b x p : Int} {r : Bool × Int} (h : pg_L T n u v F a r) (ha : a ≤ 240) (hs : pg_s T n a = b) (hc : pg_ch T n b = u ∨ pg_ch T n b = v) (hx : x = b + 1) (hF : F x = (false, p)) : r = (false, p) := by
  obtain ⟨f, h1, h2⟩ := h
  rw [pg_loop.step (by omega) hs hc hx, pg_bind.no hF] at h2
  exact h2
theorem pg_L.norm {u v : Int} {F : Int → Bool × Int} {a b : Int} {r : Bool × Int} (h : pg_L T n u v F a r) (hs : pg_s T n a = b) (hn : ¬ pg_ch T n b = 32) (hb : a ≤ b) : pg_L T n u v F b r := h.mv hs (pg_s.here hn) hb
theorem pg_L.next {u v : Int} {F : Int → Bool × Int} {a x e b : Int} {r : Bool × Int} (h : pg_L T n u v F a r) (ha : a ≤ 240) (hn : ¬ pg_ch T n a = 32) (hc : pg_ch T n a = u ∨ pg_ch T n a = v) (hx : x = a + 1) (hF : F x = (true, e)) (he : a < e) (hs : pg_s T n e = b) (hn2 : ¬ pg_ch T n b = 32) (hb : e ≤ b) : pg_L T n u v F b r := (h.step ha (pg_s.here hn) hc hx hF he).norm hs hn2 hb
theorem pg_L.out {u v : Int} {F : Int → Bool × Int} {a : Int} {r : Bool × Int} (h : pg_L T n u v F a r) (hn : ¬ pg_ch T n a = 32) (hc : ¬ (pg_ch T n a = u ∨ pg_ch T n a = v)) : r = (true, a) := h.stop (pg_s.here hn) hc
theorem pg_L.fail {u v : Int} {F : Int → Bool × Int} {a x p : Int} {r : Bool × Int} (h : pg_L T n u v F a r) (ha : a ≤ 240) (hn : ¬ pg_ch T n a = 32) (hc : pg_ch T n a = u ∨ pg_ch T n a = v) (hx : x = a + 1) (hF : F x = (false, p)) : r = (false, p) := h.no ha (pg_s.here hn) hc hx hF
theorem pg_L.bi {u v : Int} {F : Int → Bool × Int} {e : Int} {q : Bool × Int} (h : q = (true, e)) (h0 : 0 ≤ e) : pg_L T n u v F e (pg_bind q (pg_loop T n u v F 300)) := pg_L.of h0 (pg_bind.ok h)
def pg_M (T : Nat → Int32) (n u v : Int) (F : Int → Bool × Int) (a : Int) (r : Bool × Int) : Prop := ∃ f : Nat, 300 ≤ (f : Int) + a ∧ r = pg_bind (F a) (pg_loop T n u v F f)
theorem pg_M.of {u v : Int} {F : Int → Bool × Int} {a : Int} (h0 : 0 ≤ a) : pg_M T n u v F a (pg_bind (F a) (pg_loop T n u v F 300)) := ⟨300, by omega, rfl⟩
theorem pg_M.no {u v : Int} {F : Int → Bool × Int} {a p : Int} {r : Bool × Int} (h : pg_M T n u v F a r) (hF : F a = (false, p)) : r = (false, p) := by
  obtain ⟨f, _, h2⟩ := h
  exact h2.trans (pg_bind.no hF)
theorem pg_M.out {u v : Int} {F : Int → Bool × Int} {a e b : Int} {r : Bool × Int} (h : pg_M T n u v F a r) (hF : F a = (true, e)) (hs : pg_s T n e = b) (hc : ¬ (pg_ch T n b = u ∨ pg_ch T n b = v)) : r = (true, b) := by
  obtain ⟨f, _, h2⟩ := h
  exact h2.trans ((pg_bind.ok hF).trans (pg_loop.stop hs hc))
theorem pg_M.step {u v : Int} {F : Int → Bool × Int} {a e b x : Int} {r : Bool × Int} (h : pg_M T n u v F a r) (hF : F a = (true, e)) (hs : pg_s T n e = b) (hc : pg_ch T n b = u ∨ pg_ch T n b = v) (hx : x = b + 1) (ha : a ≤ 240) (hl : a < x) : pg_M T n u v F x r := by
  obtain ⟨f, h1, h2⟩ := h
  exact ⟨f - 1, by omega, h2.trans ((pg_bind.ok hF).trans (pg_loop.step (by omega) hs hc hx))⟩
def pg_row (T : Nat → Int32) (n u v : Int) (F : Int → Bool × Int) (a : Int) : Bool × Int := pg_bind (F a) (pg_loop T n u v F 300)
theorem pg_row.no {u v : Int} {F : Int → Bool × Int} {a p : Int} (h : F a = (false, p)) : pg_row T n u v F a = (false, p) := pg_bind.no h
theorem pg_row.go {u v : Int} {F : Int → Bool × Int} {a e : Int} (h : F a = (true, e)) (h0 : 0 ≤ e) : pg_L T n u v F e (pg_row T n u v F a) := pg_L.of h0 (pg_bind.ok h)
theorem pg_row.ent {u v : Int} {F : Int → Bool × Int} {a e b : Int} (h : F a = (true, e)) (h0 : 0 ≤ e) (hs : pg_s T n e = b) (hn : ¬ pg_ch T n b = 32) (hb : e ≤ b) : pg_L T n u v F b (pg_row T n u v F a) := (pg_row.go h h0).norm hs hn hb
theorem pg_row.loop {u v : Int} {F : Int → Bool × Int} {a e : Int} {r : Bool × Int} (h : F a = (true, e)) (hl : pg_loop T n u v F 300 e = r) : pg_row T n u v F a = r := (pg_bind.ok h).trans hl
theorem pg_row.st {u v : Int} {F : Int → Bool × Int} {a e b : Int} (h : F a = (true, e)) (hs : pg_s T n e = b) (hc : ¬ (pg_ch T n b = u ∨ pg_ch T n b = v)) : pg_row T n u v F a = (true, b) := (pg_bind.ok h).trans (pg_loop.stop hs hc)
theorem pg_L.last {u v : Int} {F : Int → Bool × Int} {a x e b : Int} {r : Bool × Int} (h : pg_L T n u v F a r) (ha : a ≤ 240) (hn : ¬ pg_ch T n a = 32) (hc : pg_ch T n a = u ∨ pg_ch T n a = v) (hx : x = a + 1) (hF : F x = (true, e)) (he : a < e) (hs : pg_s T n e = b) (hc2 : ¬ (pg_ch T n b = u ∨ pg_ch T n b = v)) : r = (true, b) := (h.step ha (pg_s.here hn) hc hx hF he).stop hs hc2
theorem pg_lp.stop {u v : Int} {F : Int → Bool × Int} {a b : Int} (hs : pg_s T n a = b) (hc : ¬ (pg_ch T n b = u ∨ pg_ch T n b = v)) : pg_loop T n u v F 300 a = (true, b) := pg_loop.stop hs hc
theorem pg_lp.no {u v : Int} {F : Int → Bool × Int} {a b x p : Int} (hs : pg_s T n a = b) (hc : pg_ch T n b = u ∨ pg_ch T n b = v) (hx : x = b + 1) (hF : F x = (false, p)) : pg_loop T n u v F 300 a = (false, p) := (pg_loop.step (by omega) hs hc hx).trans (pg_bind.no hF)
/-! atoms, terms, sums: k: how many of ( [ ! may still be opened -/
def pg_atomF (T : Nat → Int32) (n : Int) (m : Bool) (S : Int → Bool × Int) (a : Int) : Bool × Int :=
  if 48 ≤ pg_ch T n (pg_s T n a) ∧ pg_ch T n (pg_s T n a) ≤ 57 then pg_nm T n 4 (pg_s T n a)
  else if pm_lt (pg_ch T n (pg_s T n a)) = -1 then
    (if pg_ch T n (pg_s T n a) = 91 ∧ m = true then pg_bind (S (pg_s T n a + 1)) (pg_take T n 93) else (false, pg_s T n a))
  else (true, pg_s T n a + 1)
theorem pg_atomF.num {m : Bool} {S : Int → Bool × Int} {a b : Int} {r : Bool × Int} (hs : pg_s T n a = b) (h1 : 48 ≤ pg_ch T n b) (h2 : pg_ch T n b ≤ 57) (h : pg_nm T n 4 b = r) : pg_atomF T n m S a = r := by
  unfold pg_atomF; rw [hs, if_pos ⟨h1, h2⟩]; exact h
theorem pg_atomF.lt {m : Bool} {S : Int → Bool × Int} {a b x : Int} (hs : pg_s T n a = b) (h1 : ¬ (48 ≤ pg_ch T n b ∧ pg_ch T n b ≤ 57)) (h2 : ¬ pm_lt (pg_ch T n b) = -1) (hx : x = b + 1) : pg_atomF T n m S a = (true, x) := by
  unfold pg_atomF; rw [hs, if_neg h1, if_neg h2, hx]
theorem pg_lt91 : pm_lt 91 = -1 := by decide
theorem pg_atomF.par {S : Int → Bool × Int} {a b x : Int} {r : Bool × Int} (hs : pg_s T n a = b) (hc : pg_ch T n b = 91) (hx : x = b + 1) (h : pg_bind (S x) (pg_take T n 93) = r) : pg_atomF T n true S a = r := by
  unfold pg_atomF; rw [hs, hc, if_neg (by decide), if_pos pg_lt91, if_pos ⟨rfl, rfl⟩, ← hx]; exact h
theorem pg_atomF.par0 {S : Int → Bool × Int} {a b x p : Int} (hs : pg_s T n a = b) (hc : pg_ch T n b = 91) (hx : x = b + 1) (h : S x = (false, p)) : pg_atomF T n true S a = (false, p) := pg_atomF.par hs hc hx (pg_bind.no h)
theorem pg_atomF.par1 {S : Int → Bool × Int} {a b x e : Int} {r : Bool × Int} (hs : pg_s T n a = b) (hc : pg_ch T n b = 91) (hx : x = b + 1) (h : S x = (true, e)) (ht : pg_take T n 93 e = r) : pg_atomF T n true S a = r := pg_atomF.par hs hc hx ((pg_bind.ok h).trans ht)
theorem pg_atomF.deep {S : Int → Bool × Int} {a b p : Int} (hs : pg_s T n a = b) (hc : pg_ch T n b = 91) (hp : p = b) : pg_atomF T n false S a = (false, p) := by
  rw [hp]; unfold pg_atomF; rw [hs, hc, if_neg (by decide), if_pos pg_lt91, if_neg (fun h => Bool.noConfusion h.2)]
theorem pg_atomF.bad {m : Bool} {S : Int → Bool × Int} {a b p : Int} (hs : pg_s T n a = b) (h1 : ¬ (48 ≤ pg_ch T n b ∧ pg_ch T n b ≤ 57)) (h2 : pm_lt (pg_ch T n b) = -1) (h3 : ¬ pg_ch T n b = 91) (hp : p = b) : pg_atomF T n m S a = (false, p) := by
  rw [hp]; unfold pg_atomF; rw [hs, if_neg h1, if_pos h2, if_neg (fun h => h3 h.1)]
def pg_none (a : Int) : Bool × Int := (false, a)
def pg_sum (T : Nat → Int32) (n : Int) : Nat → Int → Bool × Int
  | 0 => pg_row T n 43 45 (pg_row T n 42 47 (pg_atomF T n false pg_none))
  | k + 1 => pg_row T n 43 45 (pg_row T n 42 47 (pg_atomF T n true (pg_sum T n k)))
def pg_atom (T : Nat → Int32) (n : Int) : Nat → Int → Bool × Int
  | 0 => pg_atomF T n false pg_none
  | k + 1 => pg_atomF T n true (pg_sum T n k)
def pg_term (T : Nat → Int32) (n : Int) (k : Nat) : Int → Bool × Int := pg_row T n 42 47 (pg_atom T n k)
theorem pg_sum.eq (k : Nat) : pg_sum T n k = pg_row T n 43 45 (pg_term T n k) := by cases k <;> rfl
/-! units, conditions -/
def pg_cmp (T : Nat → Int32) (n : Int) (k : Nat) (a : Int) : Bool × Int := if 60 ≤ pg_ch T n (pg_s T n a) ∧ pg_ch T n (pg_s T n a) ≤ 62 then pg_sum T n k (pg_s T n a + 1) else (false, pg_s T n a)
theorem pg_cmp.ok {k : Nat} {a b x : Int} {r : Bool × Int} (hs : pg_s T n a = b) (h1 : 60 ≤ pg_ch T n b) (h2 : pg_ch T n b ≤ 62) (hx : x = b + 1) (h : pg_sum T n k x = r) : pg_cmp T n k a = r := by
  unfold pg_cmp; rw [hs, if_pos ⟨h1, h2⟩, ← hx]; exact h
theorem pg_cmp.no {k : Nat} {a b p : Int} (hs : pg_s T n a = b) (h : ¬ (60 ≤ pg_ch T n b ∧ pg_ch T n b ≤ 62)) (hp : p = b) : pg_cmp T n k a = (false, p) := by
  rw [hp]; unfold pg_cmp; rw [hs, if_neg h]
def pg_unitF (T : Nat → Int32) (n : Int) (k : Nat) (m : Bool) (U C : Int → Bool × Int) (a : Int) : Bool × Int :=
  if pg_ch T n (pg_s T n a) = 33 then (if m = true then U (pg_s T n a + 1) else (false, pg_s T n a))
  else if pg_ch T n (pg_s T n a) = 40 then (if m = true then pg_bind (C (pg_s T n a + 1)) (pg_take T n 41) else (false, pg_s T n a))
  else pg_bind (pg_sum T n k (pg_s T n a)) (pg_cmp T n k)
theorem pg_unitF.not {k : Nat} {U C : Int → Bool × Int} {a b x : Int} {r : Bool × Int} (hs : pg_s T n a = b) (hc : pg_ch T n b = 33) (hx : x = b + 1) (h : U x = r) : pg_unitF T n k true U C a = r := by
  unfold pg_unitF; rw [hs, if_pos hc, if_pos rfl, ← hx]; exact h
theorem pg_unitF.par {k : Nat} {U C : Int → Bool × Int} {a b x : Int} {r : Bool × Int} (hs : pg_s T n a = b) (hc : pg_ch T n b = 40) (hx : x = b + 1) (h : pg_bind (C x) (pg_take T n 41) = r) : pg_unitF T n k true U C a = r := by
  unfold pg_unitF; rw [hs, hc, if_neg (by decide), if_pos rfl, if_pos rfl, ← hx]; exact h
theorem pg_unitF.par0 {k : Nat} {U C : Int → Bool × Int} {a b x p : Int} (hs : pg_s T n a = b) (hc : pg_ch T n b = 40) (hx : x = b + 1) (h : C x = (false, p)) : pg_unitF T n k true U C a = (false, p) := pg_unitF.par hs hc hx (pg_bind.no h)
theorem pg_unitF.par1 {k : Nat} {U C : Int → Bool × Int} {a b x e : Int} {r : Bool × Int} (hs : pg_s T n a = b) (hc : pg_ch T n b = 40) (hx : x = b + 1) (h : C x = (true, e)) (ht : pg_take T n 41 e = r) : pg_unitF T n k true U C a = r := pg_unitF.par hs hc hx ((pg_bind.ok h).trans ht)
theorem pg_unitF.deep {k : Nat} {U C : Int → Bool × Int} {a b p : Int} (hs : pg_s T n a = b) (hc : pg_ch T n b = 33 ∨ pg_ch T n b = 40) (hp : p = b) : pg_unitF T n k false U C a = (false, p) := by
  rw [hp]; unfold pg_unitF; rw [hs]
  rcases hc with hc | hc
  · rw [if_pos hc, if_neg (by decide)]
  · rw [hc, if_neg (by decide), if_pos rfl, if_neg (by decide)]
theorem pg_unitF.sum {k : Nat} {m : Bool} {U C : Int → Bool × Int} {a b : Int} {r : Bool × Int} (hs : pg_s T n a = b) (h1 : ¬ pg_ch T n b = 33) (h2 : ¬ pg_ch T n b = 40) (h : pg_bind (pg_sum T n k b) (pg_cmp T n k) = r) : pg_unitF T n k m U C a = r := by
  unfold pg_unitF; rw [hs, if_neg h1, if_neg h2]; exact h
theorem pg_unitF.sum0 {k : Nat} {m : Bool} {U C : Int → Bool × Int} {a b p : Int} (hs : pg_s T n a = b) (h1 : ¬ pg_ch T n b = 33) (h2 : ¬ pg_ch T n b = 40) (h : pg_sum T n k b = (false, p)) : pg_unitF T n k m U C a = (false, p) := pg_unitF.sum hs h1 h2 (pg_bind.no h)
theorem pg_unitF.sum1 {k : Nat} {m : Bool} {U C : Int → Bool × Int} {a b e : Int} {r : Bool × Int} (hs : pg_s T n a = b) (h1 : ¬ pg_ch T n b = 33) (h2 : ¬ pg_ch T n b = 40) (h : pg_sum T n k b = (true, e)) (hc : pg_cmp T n k e = r) : pg_unitF T n k m U C a = r := pg_unitF.sum hs h1 h2 ((pg_bind.ok h).trans hc)
theorem pg_unitF.sm1 {k : Nat} {m : Bool} {U C : Int → Bool × Int} {a b e g x : Int} {r : Bool × Int} (hs : pg_s T n a = b) (h1 : ¬ pg_ch T n b = 33) (h2 : ¬ pg_ch T n b = 40) (h : pg_sum T n k b = (true, e)) (hs2 : pg_s T n e = g) (h3 : 60 ≤ pg_ch T n g) (h4 : pg_ch T n g ≤ 62) (hx : x = g + 1) (hr : pg_sum T n k x = r) : pg_unitF T n k m U C a = r := pg_unitF.sum1 hs h1 h2 h (pg_cmp.ok hs2 h3 h4 hx hr)
theorem pg_unitF.sm2 {k : Nat} {m : Bool} {U C : Int → Bool × Int} {a b e g p : Int} (hs : pg_s T n a = b) (h1 : ¬ pg_ch T n b = 33) (h2 : ¬ pg_ch T n b = 40) (h : pg_sum T n k b = (true, e)) (hs2 : pg_s T n e = g) (h3 : ¬ (60 ≤ pg_ch T n g ∧ pg_ch T n g ≤ 62)) (hp : p = g) : pg_unitF T n k m U C a = (false, p) := pg_unitF.sum1 hs h1 h2 h (pg_cmp.no hs2 h3 hp)
def pg_tru (T : Nat → Int32) (n : Int) (U : Int → Bool × Int) : Int → Bool × Int := pg_row T n 38 38 U
def pg_con (T : Nat → Int32) (n : Int) (U : Int → Bool × Int) : Int → Bool × Int := pg_row T n 124 124 (pg_tru T n U)
theorem pg_tru.ok {U : Int → Bool × Int} {a e : Int} {r : Bool × Int} (h : U a = (true, e)) (hl : pg_loop T n 38 38 U 300 e = r) : pg_tru T n U a = r := pg_row.loop h hl
theorem pg_tru.no {U : Int → Bool × Int} {a p : Int} (h : U a = (false, p)) : pg_tru T n U a = (false, p) := pg_row.no h
theorem pg_con.ok {U : Int → Bool × Int} {a e f : Int} {r : Bool × Int} (h : U a = (true, e)) (hl : pg_loop T n 38 38 U 300 e = (true, f)) (ho : pg_loop T n 124 124 (pg_tru T n U) 300 f = r) : pg_con T n U a = r := pg_row.loop (pg_tru.ok h hl) ho
theorem pg_con.no {U : Int → Bool × Int} {a p : Int} (h : U a = (false, p)) : pg_con T n U a = (false, p) := pg_row.no (pg_tru.no h)
theorem pg_con.no2 {U : Int → Bool × Int} {a e p : Int} (h : U a = (true, e)) (hl : pg_loop T n 38 38 U 300 e = (false, p)) : pg_con T n U a = (false, p) := pg_row.no (pg_tru.ok h hl)
def pg_unit (T : Nat → Int32) (n : Int) : Nat → Int → Bool × Int
  | 0 => pg_unitF T n 0 false pg_none pg_none
  | k + 1 => pg_unitF T n (k + 1) true (pg_unit T n k) (pg_con T n (pg_unit T n k))
/-! clauses, laws -/
def pg_tail (T : Nat → Int32) (n a : Int) : Bool × Int := pg_bind (pg_take T n 63 a) (pg_sum T n 6)
/-- behind a sum that stands ahead of a sign: the condition's rest -/
def pg_rest (T : Nat → Int32) (n a : Int) : Bool × Int := pg_bind (pg_bind (pg_cmp T n 6 a) (pg_loop T n 38 38 (pg_unit T n 6) 300)) (pg_loop T n 124 124 (pg_tru T n (pg_unit T n 6)) 300)
def pg_cl2 (T : Nat → Int32) (n a : Int) : Bool × Int := if 60 ≤ pg_ch T n (pg_s T n a) ∧ pg_ch T n (pg_s T n a) ≤ 62 then pg_bind (pg_rest T n (pg_s T n a)) (pg_tail T n) else (true, pg_s T n a)
def pg_cl3 (T : Nat → Int32) (n a : Int) : Bool × Int := if pg_ch T n (pg_s T n a) = 33 ∨ pg_ch T n (pg_s T n a) = 40 then pg_bind (pg_con T n (pg_unit T n 6) (pg_s T n a)) (pg_tail T n) else pg_bind (pg_sum T n 6 (pg_s T n a)) (pg_cl2 T n)
def pg_clause (T : Nat → Int32) (n a : Int) : Bool × Int := pg_bind (pg_bind (pg_take T n 121 a) (pg_take T n 58)) (pg_cl3 T n)
theorem pg_clause.n0 {a b p : Int} (hs : pg_s T n a = b) (hc : ¬ pg_ch T n b = 121) (hp : p = b) : pg_clause T n a = (false, p) := pg_bind.no (pg_bind.no (pg_take.no hs hc hp))
theorem pg_clause.n1 {a b x d p : Int} (hs : pg_s T n a = b) (hc : pg_ch T n b = 121) (hx : x = b + 1) (hs2 : pg_s T n x = d) (hc2 : ¬ pg_ch T n d = 58) (hp : p = d) : pg_clause T n a = (false, p) := pg_bind.no ((pg_bind.ok (pg_take.ok hs hc hx)).trans (pg_take.no hs2 hc2 hp))
theorem pg_clause.go {a b x d y : Int} (hs : pg_s T n a = b) (hc : pg_ch T n b = 121) (hx : x = b + 1) (hs2 : pg_s T n x = d) (hc2 : pg_ch T n d = 58) (hy : y = d + 1) : pg_clause T n a = pg_cl3 T n y := pg_bind.ok ((pg_bind.ok (pg_take.ok hs hc hx)).trans (pg_take.ok hs2 hc2 hy))
theorem pg_clause.c1 {a b x d y f : Int} (hs3 : pg_s T n y = f) (hq : pg_ch T n f = 33 ∨ pg_ch T n f = 40) (hs2 : pg_s T n x = d) (hc2 : pg_ch T n d = 58) (hy : y = d + 1) (hs : pg_s T n a = b) (hc : pg_ch T n b = 121) (hx : x = b + 1) : pg_clause T n a = pg_bind (pg_con T n (pg_unit T n 6) f) (pg_tail T n) := by
  rw [pg_clause.go hs hc hx hs2 hc2 hy]; unfold pg_cl3; rw [hs3, if_pos hq]
theorem pg_clause.c0 {a b x d y f : Int} (hs3 : pg_s T n y = f) (hq : ¬ (pg_ch T n f = 33 ∨ pg_ch T n f = 40)) (hs2 : pg_s T n x = d) (hc2 : pg_ch T n d = 58) (hy : y = d + 1) (hs : pg_s T n a = b) (hc : pg_ch T n b = 121) (hx : x = b + 1) : pg_clause T n a = pg_bind (pg_sum T n 6 f) (pg_cl2 T n) := by
  rw [pg_clause.go hs hc hx hs2 hc2 hy]; unfold pg_cl3; rw [hs3, if_neg hq]
theorem pg_clause.t1 {a e : Int} {r : Bool × Int} (h : pg_clause T n a = pg_bind r (pg_tail T n)) (hr : r = (true, e)) : pg_clause T n a = pg_tail T n e := h.trans (pg_bind.ok hr)
theorem pg_clause.f1 {a p : Int} {r : Bool × Int} {g : Int → Bool × Int} (h : pg_clause T n a = pg_bind r g) (hr : r = (false, p)) : pg_clause T n a = (false, p) := h.trans (pg_bind.no hr)
theorem pg_clause.t0 {a e g : Int} {r : Bool × Int} (h : pg_clause T n a = pg_bind r (pg_cl2 T n)) (hr : r = (true, e)) (hs : pg_s T n e = g) (hn : ¬ (60 ≤ pg_ch T n g ∧ pg_ch T n g ≤ 62)) : pg_clause T n a = (true, g) := by
  rw [h, pg_bind.ok hr]; unfold pg_cl2; rw [hs, if_neg hn]
theorem pg_clause.sg {a e g : Int} {r : Bool × Int} (h : pg_clause T n a = pg_bind r (pg_cl2 T n)) (hr : r = (true, e)) (hs : pg_s T n e = g) (h1 : 60 ≤ pg_ch T n g) (h2 : pg_ch T n g ≤ 62) : pg_clause T n a = pg_bind (pg_rest T n g) (pg_tail T n) := by
  rw [h, pg_bind.ok hr]; unfold pg_cl2; rw [hs, if_pos ⟨h1, h2⟩]
theorem pg_rest.f3 {g p : Int} (hc : pg_cmp T n 6 g = (false, p)) : pg_rest T n g = (false, p) := pg_bind.no (pg_bind.no hc)
theorem pg_rest.f4 {g i p : Int} (hc : pg_cmp T n 6 g = (true, i)) (ha : pg_loop T n 38 38 (pg_unit T n 6) 300 i = (false, p)) : pg_rest T n g = (false, p) := pg_bind.no ((pg_bind.ok hc).trans ha)
theorem pg_rest.t {g i j : Int} {r : Bool × Int} (hc : pg_cmp T n 6 g = (true, i)) (ha : pg_loop T n 38 38 (pg_unit T n 6) 300 i = (true, j)) (ho : pg_loop T n 124 124 (pg_tru T n (pg_unit T n 6)) 300 j = r) : pg_rest T n g = r := (pg_bind.ok ((pg_bind.ok hc).trans ha)).trans ho
theorem pg_clause.t2 {a e g i j w : Int} {r : Bool × Int} (h : pg_clause T n a = pg_bind r (pg_cl2 T n)) (hr : r = (true, e)) (hs : pg_s T n e = g) (h1 : 60 ≤ pg_ch T n g) (h2 : pg_ch T n g ≤ 62) (hc : pg_cmp T n 6 g = (true, i)) (ha : pg_loop T n 38 38 (pg_unit T n 6) 300 i = (true, j)) (ho : pg_loop T n 124 124 (pg_tru T n (pg_unit T n 6)) 300 j = (true, w)) : pg_clause T n a = pg_tail T n w := (pg_clause.sg h hr hs h1 h2).trans (pg_bind.ok (pg_rest.t hc ha ho))
theorem pg_clause.f5 {a e g i j w : Int} {r : Bool × Int} (h : pg_clause T n a = pg_bind r (pg_cl2 T n)) (hr : r = (true, e)) (hs : pg_s T n e = g) (h1 : 60 ≤ pg_ch T n g) (h2 : pg_ch T n g ≤ 62) (hc : pg_cmp T n 6 g = (true, i)) (ha : pg_loop T n 38 38 (pg_unit T n 6) 300 i = (true, j)) (ho : pg_loop T n 124 124 (pg_tru T n (pg_unit T n 6)) 300 j = (false, w)) : pg_clause T n a = (false, w) := (pg_clause.sg h hr hs h1 h2).trans (pg_bind.no (pg_rest.t hc ha ho))
theorem pg_clause.f4 {a e g i p : Int} {r : Bool × Int} (h : pg_clause T n a = pg_bind r (pg_cl2 T n)) (hr : r = (true, e)) (hs : pg_s T n e = g) (h1 : 60 ≤ pg_ch T n g) (h2 : pg_ch T n g ≤ 62) (hc : pg_cmp T n 6 g = (true, i)) (ha : pg_loop T n 38 38 (pg_unit T n 6) 300 i = (false, p)) : pg_clause T n a = (false, p) := (pg_clause.sg h hr hs h1 h2).trans (pg_bind.no (pg_rest.f4 hc ha))
theorem pg_clause.f3 {a e g p : Int} {r : Bool × Int} (h : pg_clause T n a = pg_bind r (pg_cl2 T n)) (hr : r = (true, e)) (hs : pg_s T n e = g) (h1 : 60 ≤ pg_ch T n g) (h2 : pg_ch T n g ≤ 62) (hc : pg_cmp T n 6 g = (false, p)) : pg_clause T n a = (false, p) := (pg_clause.sg h hr hs h1 h2).trans (pg_bind.no (pg_rest.f3 hc))
theorem pg_clause.l1 {a e b p : Int} (h : pg_clause T n a = pg_tail T n e) (hs : pg_s T n e = b) (hc : ¬ pg_ch T n b = 63) (hp : p = b) : pg_clause T n a = (false, p) := h.trans (pg_bind.no (pg_take.no hs hc hp))
theorem pg_clause.l2 {a e b x : Int} {r : Bool × Int} (h : pg_clause T n a = pg_tail T n e) (hs : pg_s T n e = b) (hc : pg_ch T n b = 63) (hx : x = b + 1) (hr : pg_sum T n 6 x = r) : pg_clause T n a = r := h.trans ((pg_bind.ok (pg_take.ok hs hc hx)).trans hr)
theorem pg_clause.x0 {a p : Int} (h : pg_take T n 121 a = (false, p)) : pg_clause T n a = (false, p) := pg_bind.no (pg_bind.no h)
theorem pg_clause.x1 {a e p : Int} (h : pg_take T n 121 a = (true, e)) (h2 : pg_take T n 58 e = (false, p)) : pg_clause T n a = (false, p) := pg_bind.no ((pg_bind.ok h).trans h2)
theorem pg_clause.xg {a e f : Int} (h : pg_take T n 121 a = (true, e)) (h2 : pg_take T n 58 e = (true, f)) : pg_clause T n a = pg_cl3 T n f := pg_bind.ok ((pg_bind.ok h).trans h2)
theorem pg_clause.xs {a e f b : Int} (h : pg_take T n 121 a = (true, e)) (h2 : pg_take T n 58 e = (true, f)) (hs : pg_s T n f = b) (hq : ¬ (pg_ch T n b = 33 ∨ pg_ch T n b = 40)) : pg_clause T n a = pg_bind (pg_sum T n 6 b) (pg_cl2 T n) := by
  rw [pg_clause.xg h h2]; unfold pg_cl3; rw [hs, if_neg hq]
theorem pg_clause.xc {a e f b : Int} (h : pg_take T n 121 a = (true, e)) (h2 : pg_take T n 58 e = (true, f)) (hs : pg_s T n f = b) (hq : pg_ch T n b = 33 ∨ pg_ch T n b = 40) : pg_clause T n a = pg_bind (pg_con T n (pg_unit T n 6) b) (pg_tail T n) := by
  rw [pg_clause.xg h h2]; unfold pg_cl3; rw [hs, if_pos hq]
theorem pg_clause.x2 {a e f b p : Int} (h : pg_take T n 121 a = (true, e)) (h2 : pg_take T n 58 e = (true, f)) (hs : pg_s T n f = b) (hq : ¬ (pg_ch T n b = 33 ∨ pg_ch T n b = 40)) (h3 : pg_sum T n 6 b = (false, p)) : pg_clause T n a = (false, p) := (pg_clause.xs h h2 hs hq).trans (pg_bind.no h3)
theorem pg_clause.x3 {a e f b i g : Int} (h : pg_take T n 121 a = (true, e)) (h2 : pg_take T n 58 e = (true, f)) (hs : pg_s T n f = b) (hq : ¬ (pg_ch T n b = 33 ∨ pg_ch T n b = 40)) (h3 : pg_sum T n 6 b = (true, i)) (hs2 : pg_s T n i = g) (hn : ¬ (60 ≤ pg_ch T n g ∧ pg_ch T n g ≤ 62)) : pg_clause T n a = (true, g) := pg_clause.t0 (pg_clause.xs h h2 hs hq) h3 hs2 hn
theorem pg_clause.xr {a e f b i g : Int} (h : pg_take T n 121 a = (true, e)) (h2 : pg_take T n 58 e = (true, f)) (hs : pg_s T n f = b) (hq : ¬ (pg_ch T n b = 33 ∨ pg_ch T n b = 40)) (h3 : pg_sum T n 6 b = (true, i)) (hs2 : pg_s T n i = g) (h4 : 60 ≤ pg_ch T n g) (h5 : pg_ch T n g ≤ 62) : pg_clause T n a = pg_bind (pg_rest T n g) (pg_tail T n) := pg_clause.sg (pg_clause.xs h h2 hs hq) h3 hs2 h4 h5
theorem pg_clause.x4 {a e f b i g p : Int} (h : pg_take T n 121 a = (true, e)) (h2 : pg_take T n 58 e = (true, f)) (hs : pg_s T n f = b) (hq : ¬ (pg_ch T n b = 33 ∨ pg_ch T n b = 40)) (h3 : pg_sum T n 6 b = (true, i)) (hs2 : pg_s T n i = g) (h4 : 60 ≤ pg_ch T n g) (h5 : pg_ch T n g ≤ 62) (h6 : pg_rest T n g = (false, p)) : pg_clause T n a = (false, p) := (pg_clause.xr h h2 hs hq h3 hs2 h4 h5).trans (pg_bind.no h6)
theorem pg_clause.x5 {a e f b i g w : Int} {r : Bool × Int} (h : pg_take T n 121 a = (true, e)) (h2 : pg_take T n 58 e = (true, f)) (hs : pg_s T n f = b) (hq : ¬ (pg_ch T n b = 33 ∨ pg_ch T n b = 40)) (h3 : pg_sum T n 6 b = (true, i)) (hs2 : pg_s T n i = g) (h4 : 60 ≤ pg_ch T n g) (h5 : pg_ch T n g ≤ 62) (h6 : pg_rest T n g = (true, w)) (h7 : pg_tail T n w = r) : pg_clause T n a = r := (pg_clause.xr h h2 hs hq h3 hs2 h4 h5).trans ((pg_bind.ok h6).trans h7)
theorem pg_clause.x7 {a e f b p : Int} (h : pg_take T n 121 a = (true, e)) (h2 : pg_take T n 58 e = (true, f)) (hs : pg_s T n f = b) (hq : pg_ch T n b = 33 ∨ pg_ch T n b = 40) (h6 : pg_con T n (pg_unit T n 6) b = (false, p)) : pg_clause T n a = (false, p) := (pg_clause.xc h h2 hs hq).trans (pg_bind.no h6)
theorem pg_clause.x8 {a e f b w : Int} {r : Bool × Int} (h : pg_take T n 121 a = (true, e)) (h2 : pg_take T n 58 e = (true, f)) (hs : pg_s T n f = b) (hq : pg_ch T n b = 33 ∨ pg_ch T n b = 40) (h6 : pg_con T n (pg_unit T n 6) b = (true, w)) (h7 : pg_tail T n w = r) : pg_clause T n a = r := (pg_clause.xc h h2 hs hq).trans ((pg_bind.ok h6).trans h7)
theorem pg_tail.no {w p : Int} (h : pg_take T n 63 w = (false, p)) : pg_tail T n w = (false, p) := pg_bind.no h
theorem pg_tail.ok {w y : Int} {r : Bool × Int} (h : pg_take T n 63 w = (true, y)) (h2 : pg_sum T n 6 y = r) : pg_tail T n w = r := (pg_bind.ok h).trans h2
def pg_end (T : Nat → Int32) (n : Int) (r : Bool × Int) : Int := match r with | (true, e) => if pg_ch T n (pg_s T n e) = -1 then -1 else pg_s T n e | (false, p) => p
def pg_law (T : Nat → Int32) (n : Int) : Int := pg_end T n (pg_row T n 59 59 (pg_clause T n) 0)
theorem pg_end.z {a b r : Int} (hs : pg_s T n a = b) (hc : pg_ch T n b = -1) (hr : r = -1) : r = pg_end T n (true, a) := by
  show r = if pg_ch T n (pg_s T n a) = -1 then -1 else pg_s T n a
  rw [hs, if_pos hc]; exact hr
theorem pg_end.w {a b r : Int} (hs : pg_s T n a = b) (hc : ¬ pg_ch T n b = -1) (hr : r = b) : r = pg_end T n (true, a) := by
  show r = if pg_ch T n (pg_s T n a) = -1 then -1 else pg_s T n a
  rw [hs, if_neg hc]; exact hr
theorem pg_law.ok {e b r : Int} (h : pg_L T n 59 59 (pg_clause T n) e (pg_row T n 59 59 (pg_clause T n) ((0 : Int32)).toInt)) (hs : pg_s T n e = b) (hc : ¬ (pg_ch T n b = 59 ∨ pg_ch T n b = 59)) (hr : r = pg_end T n (true, b)) : r = pg_law T n := by
  rw [hr, ← h.stop hs hc]; rfl
theorem pg_law.no {p r : Int} (h : pg_row T n 59 59 (pg_clause T n) ((0 : Int32)).toInt = (false, p)) (hr : r = p) : r = pg_law T n := by
  show r = pg_end T n (pg_row T n 59 59 (pg_clause T n) ((0 : Int32)).toInt)
  rw [h]; exact hr
theorem pg_law.no0 {p r : Int} (h : pg_row T n 59 59 (pg_clause T n) ((0 : Int32)).toInt = (false, p)) (hr : r = p) : r = pg_law T n := by
  show r = pg_end T n (pg_row T n 59 59 (pg_clause T n) ((0 : Int32)).toInt)
  rw [h]; exact hr
theorem pg_law.k0 {a p r : Int} (h : pg_M T n 59 59 (pg_clause T n) a (pg_row T n 59 59 (pg_clause T n) ((0 : Int32)).toInt)) (hF : pg_clause T n a = (false, p)) (hr : r = p) : r = pg_law T n := pg_law.no0 (h.no hF) hr
theorem pg_law.k1 {a e b r : Int} (h : pg_M T n 59 59 (pg_clause T n) a (pg_row T n 59 59 (pg_clause T n) ((0 : Int32)).toInt)) (hF : pg_clause T n a = (true, e)) (hs : pg_s T n e = b) (hn : ¬ pg_ch T n b = 32) (hc : pg_ch T n b = -1) (hr : r = -1) : r = pg_law T n := by
  show r = pg_end T n (pg_row T n 59 59 (pg_clause T n) ((0 : Int32)).toInt)
  rw [h.out hF hs (by omega)]
  exact pg_end.z (pg_s.here hn) hc hr
theorem pg_law.k2 {a e b r : Int} (h : pg_M T n 59 59 (pg_clause T n) a (pg_row T n 59 59 (pg_clause T n) ((0 : Int32)).toInt)) (hF : pg_clause T n a = (true, e)) (hs : pg_s T n e = b) (hn : ¬ pg_ch T n b = 32) (hc : ¬ pg_ch T n b = -1) (hd : ¬ pg_ch T n b = 59) (hr : r = b) : r = pg_law T n := by
  show r = pg_end T n (pg_row T n 59 59 (pg_clause T n) ((0 : Int32)).toInt)
  rw [h.out hF hs (by omega)]
  exact pg_end.w (pg_s.here hn) hc hr
end PG
/-! the grammar of offices, told once -/
section PGO
variable {T : Nat → Int32} {n : Int}
def pg_nb (T : Nat → Int32) (n lo hi e v : Int) : (Bool × Int) × Int := if 48 ≤ pg_ch T n e ∧ pg_ch T n e ≤ 57 then ((false, e), v) else if lo ≤ v ∧ v ≤ hi then ((true, e), v) else ((false, e - 1), v)
def pg_n2 (T : Nat → Int32) (n lo hi a : Int) : (Bool × Int) × Int :=
  if 48 ≤ pg_ch T n (pg_s T n a) ∧ pg_ch T n (pg_s T n a) ≤ 57 then
    (if 48 ≤ pg_ch T n (pg_s T n a + 1) ∧ pg_ch T n (pg_s T n a + 1) ≤ 57 then pg_nb T n lo hi (pg_s T n a + 2) (10 * (pg_ch T n (pg_s T n a) - 48) + (pg_ch T n (pg_s T n a + 1) - 48)) else pg_nb T n lo hi (pg_s T n a + 1) (pg_ch T n (pg_s T n a) - 48))
  else ((false, pg_s T n a), lo)
theorem pg_n2.none {lo hi a b p v : Int} (hs : pg_s T n a = b) (h : ¬ (48 ≤ pg_ch T n b ∧ pg_ch T n b ≤ 57)) (hp : p = b) (hv : v = lo) : pg_n2 T n lo hi a = ((false, p), v) := by
  unfold pg_n2; rw [hs, if_neg h, hp, hv]
theorem pg_nb.ok {lo hi e v : Int} (h : ¬ (48 ≤ pg_ch T n e ∧ pg_ch T n e ≤ 57)) (h1 : lo ≤ v) (h2 : v ≤ hi) : pg_nb T n lo hi e v = ((true, e), v) := by
  unfold pg_nb; rw [if_neg h, if_pos ⟨h1, h2⟩]
theorem pg_nb.no {lo hi e v p : Int} (h : ¬ (48 ≤ pg_ch T n e ∧ pg_ch T n e ≤ 57)) (h1 : ¬ (lo ≤ v ∧ v ≤ hi)) (hp : p = e - 1) : pg_nb T n lo hi e v = ((false, p), v) := by
  unfold pg_nb; rw [if_neg h, if_neg h1, hp]
theorem pg_nb.three {lo hi e v p : Int} (h1 : 48 ≤ pg_ch T n e) (h2 : pg_ch T n e ≤ 57) (hp : p = e) : pg_nb T n lo hi e v = ((false, p), v) := by
  unfold pg_nb; rw [if_pos ⟨h1, h2⟩, hp]
theorem pg_n2.one {lo hi a b x v : Int} {r : (Bool × Int) × Int} (hs : pg_s T n a = b) (hx : x = b + 1) (hr : pg_nb T n lo hi x v = r) (h1 : 48 ≤ pg_ch T n b) (h2 : pg_ch T n b ≤ 57) (h : ¬ (48 ≤ pg_ch T n x ∧ pg_ch T n x ≤ 57)) (hv : v = pg_ch T n b - 48) : pg_n2 T n lo hi a = r := by
  unfold pg_n2; rw [hs, if_pos ⟨h1, h2⟩, ← hx, if_neg h, ← hv]; exact hr
theorem pg_n2.two {lo hi a b x y v : Int} {r : (Bool × Int) × Int} (hs : pg_s T n a = b) (hx : x = b + 1) (hy : y = x + 1) (hr : pg_nb T n lo hi y v = r) (h1 : 48 ≤ pg_ch T n b) (h2 : pg_ch T n b ≤ 57) (h3 : 48 ≤ pg_ch T n x) (h4 : pg_ch T n x ≤ 57) (hv : v = 10 * (pg_ch T n b - 48) + (pg_ch T n x - 48)) : pg_n2 T n lo hi a = r := by
  unfold pg_n2; rw [hs, if_pos ⟨h1, h2⟩, ← hx, if_pos ⟨h3, h4⟩, show b + 2 = y by omega, ← hv]; exact hr
/-- one or two digits, whatever their bounds -/
def pg_tn (T : Nat → Int32) (n a : Int) : (Bool × Int) × Int :=
  if 48 ≤ pg_ch T n (pg_s T n a) ∧ pg_ch T n (pg_s T n a) ≤ 57 then
    (if 48 ≤ pg_ch T n (pg_s T n a + 1) ∧ pg_ch T n (pg_s T n a + 1) ≤ 57 then
      (if 48 ≤ pg_ch T n (pg_s T n a + 2) ∧ pg_ch T n (pg_s T n a + 2) ≤ 57 then ((false, pg_s T n a + 2), 10 * (pg_ch T n (pg_s T n a) - 48) + (pg_ch T n (pg_s T n a + 1) - 48)) else ((true, pg_s T n a + 2), 10 * (pg_ch T n (pg_s T n a) - 48) + (pg_ch T n (pg_s T n a + 1) - 48)))
    else ((true, pg_s T n a + 1), pg_ch T n (pg_s T n a) - 48))
  else ((false, pg_s T n a), 0)
theorem pg_tn.none {a b p : Int} (hs : pg_s T n a = b) (h : ¬ (48 ≤ pg_ch T n b ∧ pg_ch T n b ≤ 57)) (hp : p = b) : (pg_tn T n a).1 = (false, p) := by
  unfold pg_tn; rw [hs, if_neg h, hp]
theorem pg_tn.one {a b x v : Int} (hs : pg_s T n a = b) (hx : x = b + 1) (h1 : 48 ≤ pg_ch T n b) (h2 : pg_ch T n b ≤ 57) (h : ¬ (48 ≤ pg_ch T n x ∧ pg_ch T n x ≤ 57)) (hv : v = pg_ch T n b - 48) : pg_tn T n a = ((true, x), v) := by
  unfold pg_tn; rw [hs, if_pos ⟨h1, h2⟩, ← hx, if_neg h, hv]
theorem pg_tn.two {a b x y v : Int} (hs : pg_s T n a = b) (hx : x = b + 1) (hy : y = x + 1) (h1 : 48 ≤ pg_ch T n b) (h2 : pg_ch T n b ≤ 57) (h3 : 48 ≤ pg_ch T n x) (h4 : pg_ch T n x ≤ 57) (h : ¬ (48 ≤ pg_ch T n y ∧ pg_ch T n y ≤ 57)) (hv : v = 10 * (pg_ch T n b - 48) + (pg_ch T n x - 48)) : pg_tn T n a = ((true, y), v) := by
  unfold pg_tn; rw [hs, if_pos ⟨h1, h2⟩, show b + 2 = y by omega, ← hx, if_pos ⟨h3, h4⟩, if_neg h, hv]
theorem pg_tn.three {a b x y p : Int} (hs : pg_s T n a = b) (hx : x = b + 1) (hy : y = x + 1) (h1 : 48 ≤ pg_ch T n b) (h2 : pg_ch T n b ≤ 57) (h3 : 48 ≤ pg_ch T n x) (h4 : pg_ch T n x ≤ 57) (h5 : 48 ≤ pg_ch T n y) (h6 : pg_ch T n y ≤ 57) (hp : p = y) : (pg_tn T n a).1 = (false, p) := by
  unfold pg_tn; rw [hs, if_pos ⟨h1, h2⟩, show b + 2 = y by omega, ← hx, if_pos ⟨h3, h4⟩, if_pos ⟨h5, h6⟩, hp]
theorem pg_n2.tn (lo hi a : Int) : (∀ e v, pg_tn T n a = ((true, e), v) → pg_n2 T n lo hi a = if lo ≤ v ∧ v ≤ hi then ((true, e), v) else ((false, e - 1), v)) ∧ (∀ p, (pg_tn T n a).1 = (false, p) → (pg_n2 T n lo hi a).1 = (false, p)) := by
  unfold pg_tn pg_n2 pg_nb
  by_cases e1 : 48 ≤ pg_ch T n (pg_s T n a) ∧ pg_ch T n (pg_s T n a) ≤ 57
  · rw [if_pos e1, if_pos e1]
    by_cases e2 : 48 ≤ pg_ch T n (pg_s T n a + 1) ∧ pg_ch T n (pg_s T n a + 1) ≤ 57
    · rw [if_pos e2, if_pos e2]
      by_cases e3 : 48 ≤ pg_ch T n (pg_s T n a + 2) ∧ pg_ch T n (pg_s T n a + 2) ≤ 57
      · rw [if_pos e3, if_pos e3]
        exact ⟨fun e v h => absurd (congrArg (fun z => z.1.1) h) (by simp), fun p h => h⟩
      · rw [if_neg e3, if_neg e3]
        exact ⟨fun e v h => by cases h; rfl, fun p h => absurd (congrArg Prod.fst h) (by simp)⟩
    · rw [if_neg e2, if_neg e2, if_neg e2]
      exact ⟨fun e v h => by cases h; rfl, fun p h => absurd (congrArg Prod.fst h) (by simp)⟩
  · rw [if_neg e1, if_neg e1]
    exact ⟨fun e v h => absurd (congrArg (fun z => z.1.1) h) (by simp), fun p h => h⟩
theorem pg_n2.t1 {lo hi a e v : Int} (h : pg_tn T n a = ((true, e), v)) (h1 : lo ≤ v) (h2 : v ≤ hi) : pg_n2 T n lo hi a = ((true, e), v) := by
  rw [(pg_n2.tn lo hi a).1 e v h, if_pos ⟨h1, h2⟩]
theorem pg_n2.t0 {lo hi a e v p : Int} (h : pg_tn T n a = ((true, e), v)) (hn : ¬ (lo ≤ v ∧ v ≤ hi)) (hp : p = e - 1) : (pg_n2 T n lo hi a).1 = (false, p) := by
  rw [(pg_n2.tn lo hi a).1 e v h, if_neg hn, hp]
theorem pg_n2.tf {lo hi a p : Int} (h : (pg_tn T n a).1 = (false, p)) : (pg_n2 T n lo hi a).1 = (false, p) := (pg_n2.tn lo hi a).2 p h
/-! items: of s (true), of b (false) -/
def pg_it (s : Bool) (c : Int) : Int32 := if s = true then (if c = 119 then 0 else if c = 110 then 1 else if c = 102 then 2 else if c = 107 then 3 else -1) else (if c = 122 then 0 else if c = 97 then 1 else if c = 99 then 2 else if c = 104 then 3 else if c = 108 then 4 else -1)
def pg_lo : Bool → Int → Int
  | true => pm_los
  | false => pm_lob
def pg_hi : Bool → Int → Int
  | true => pm_his
  | false => pm_hib
/-- the item k was met -/
def pg_hb (g k : Int32) : Bool := decide ((g >>> (k &&& 31)) &&& 1 = 1)
def pg_itc (q : (Bool × Int) × Int) (F : Int → Int → (Bool × Int) × (Nat → Int32)) (V : Nat → Int32) : (Bool × Int) × (Nat → Int32) := match q with | ((true, e), v) => F e v | ((false, p), _) => ((false, p), V)
def pg_items (T : Nat → Int32) (n : Int) (s : Bool) (fr : Int) : Nat → Int → Int32 → (Nat → Int32) → (Bool × Int) × (Nat → Int32)
  | 0, a, _, V => ((true, pg_s T n a), V)
  | f + 1, a, g, V =>
    if pg_it s (pg_ch T n (pg_s T n a)) = -1 ∨ pg_hb g (pg_it s (pg_ch T n (pg_s T n a))) = true then ((true, pg_s T n a), V)
    else pg_itc (pg_n2 T n (pg_lo s (pg_it s (pg_ch T n (pg_s T n a))).toInt) (pg_hi s (pg_it s (pg_ch T n (pg_s T n a))).toInt) (pg_s T n a + 1))
      (fun e v => pg_items T n s fr f e (g ||| ((1 : Int32) <<< (pg_it s (pg_ch T n (pg_s T n a)) &&& 31))) (upd V (fr + (pg_it s (pg_ch T n (pg_s T n a))).toInt).toNat (Int32.ofInt v))) V
theorem pg_items.at {s : Bool} {fr a b : Int} {f : Nat} {g : Int32} {V : Nat → Int32} (hs : pg_s T n a = b) (hs2 : pg_s T n b = b) : pg_items T n s fr f a g V = pg_items T n s fr f b g V := by
  cases f with
  | zero => show ((true, pg_s T n a), V) = ((true, pg_s T n b), V); rw [hs, hs2]
  | succ f => unfold pg_items; rw [hs, hs2]
def pg_I (T : Nat → Int32) (n : Int) (s : Bool) (fr a : Int) (g : Int32) (V : Nat → Int32) (r : (Bool × Int) × (Nat → Int32)) : Prop := ∃ f : Nat, 300 ≤ (f : Int) + a ∧ r = pg_items T n s fr f a g V
theorem pg_I.of {s : Bool} {fr a : Int} {g : Int32} {V : Nat → Int32} (h0 : 0 ≤ a) : pg_I T n s fr a g V (pg_items T n s fr 300 a g V) := ⟨300, by omega, rfl⟩
theorem pg_I.norm {s : Bool} {fr a b : Int} {g : Int32} {V : Nat → Int32} {r : (Bool × Int) × (Nat → Int32)} (h : pg_I T n s fr a g V r) (hs : pg_s T n a = b) (hn : ¬ pg_ch T n b = 32) (hb : a ≤ b) : pg_I T n s fr b g V r := by
  obtain ⟨f, h1, h2⟩ := h
  exact ⟨f, by omega, h2.trans (pg_items.at hs (pg_s.here hn))⟩
theorem pg_I.ini {s : Bool} {fr a b : Int} {g : Int32} {V V0 : Nat → Int32} (hV : V = V0) (hs : pg_s T n a = b) (hn : ¬ pg_ch T n b = 32) (hb : a ≤ b) (h0 : 0 ≤ a) : pg_I T n s fr b g V (pg_items T n s fr 300 a g V0) := by
  subst hV; exact (pg_I.of h0).norm hs hn hb
theorem pg_I.out {s : Bool} {fr a : Int} {g k : Int32} {V : Nat → Int32} {r : (Bool × Int) × (Nat → Int32)} (h : pg_I T n s fr a g V r) (hn : ¬ pg_ch T n a = 32) (hk : k = pg_it s (pg_ch T n a)) (hc : k = -1 ∨ pg_hb g k = true) : r = ((true, a), V) := by
  obtain ⟨f, _, h2⟩ := h
  rw [h2]
  cases f with
  | zero => show ((true, pg_s T n a), V) = _; rw [pg_s.here hn]
  | succ f => unfold pg_items; rw [pg_s.here hn, ← hk, if_pos hc]
theorem pg_I.sx {s : Bool} {fr a x lo hi : Int} {g k : Int32} {V : Nat → Int32} {r : (Bool × Int) × (Nat → Int32)} {q : (Bool × Int) × Int} (h : pg_I T n s fr a g V r) (ha : a ≤ 240) (hn : ¬ pg_ch T n a = 32) (hk : k = pg_it s (pg_ch T n a)) (h1 : ¬ k = -1) (h2 : pg_hb g k = false) (hx : x = a + 1) (hl : lo = pg_lo s k.toInt) (hh : hi = pg_hi s k.toInt) (hq : pg_n2 T n lo hi x = q) : ∃ f : Nat, 300 ≤ (f : Int) + 1 + a ∧ r = pg_itc q (fun e v => pg_items T n s fr f e (g ||| ((1 : Int32) <<< (k &&& 31))) (upd V (fr + k.toInt).toNat (Int32.ofInt v))) V := by
  obtain ⟨f, h3, h4⟩ := h
  cases f with
  | zero => exfalso; omega
  | succ f =>
    refine ⟨f, by omega, ?_⟩
    rw [h4]
    conv => lhs; unfold pg_items
    rw [pg_s.here hn, ← hk, if_neg (fun h => by rcases h with h | h; exact h1 h; rw [h2] at h; exact Bool.noConfusion h), ← hl, ← hh, ← hx, hq]
theorem pg_I.next {s : Bool} {fr a x lo hi e b : Int} {g g' m k i v : Int32} {V V' : Nat → Int32} {r : (Bool × Int) × (Nat → Int32)} (h : pg_I T n s fr a g V r) (hV : V' = upd V (Int32.toNatClampNeg i) v) (hi2 : i.toInt = fr + k.toInt) (hg : g' = g ||| m) (hm : m = (1 : Int32) <<< (k &&& 31)) (hq : pg_n2 T n lo hi x = ((true, e), v.toInt)) (hl : lo = pg_lo s k.toInt) (hh : hi = pg_hi s k.toInt) (hx : x = a + 1) (ha : a ≤ 240) (hn : ¬ pg_ch T n a = 32) (hk : k = pg_it s (pg_ch T n a)) (h1 : ¬ k = -1) (h2 : pg_hb g k = false) (he : a < e) (hs : pg_s T n e = b) (hn2 : ¬ pg_ch T n b = 32) (hb : e ≤ b) : pg_I T n s fr b g' V' r := by
  obtain ⟨f, h3, h4⟩ := h.sx ha hn hk h1 h2 hx hl hh hq
  refine pg_I.norm (a := e) ⟨f, by omega, ?_⟩ hs hn2 hb
  rw [h4, hV, hg, hm]
  show pg_items T n s fr f e (g ||| ((1 : Int32) <<< (k &&& 31))) (upd V (fr + k.toInt).toNat (Int32.ofInt v.toInt)) = _
  rw [← hi2, Int32.ofInt_toInt]; rfl
theorem pg_I.fail {s : Bool} {fr a x lo hi p v : Int} {g k : Int32} {V : Nat → Int32} {r : (Bool × Int) × (Nat → Int32)} (h : pg_I T n s fr a g V r) (hq : pg_n2 T n lo hi x = ((false, p), v)) (hl : lo = pg_lo s k.toInt) (hh : hi = pg_hi s k.toInt) (hx : x = a + 1) (ha : a ≤ 240) (hn : ¬ pg_ch T n a = 32) (hk : k = pg_it s (pg_ch T n a)) (h1 : ¬ k = -1) (h2 : pg_hb g k = false) : r.1 = (false, p) := by
  obtain ⟨f, _, h4⟩ := h.sx ha hn hk h1 h2 hx hl hh hq
  rw [h4]; rfl
theorem pg_I.fail1 {s : Bool} {fr a b x lo hi p : Int} {g k : Int32} {V : Nat → Int32} {r : (Bool × Int) × (Nat → Int32)} (h : pg_I T n s fr a g V r) (hs : pg_s T n a = b) (hq : (pg_n2 T n lo hi x).1 = (false, p)) (hl : lo = pg_lo s k.toInt) (hh : hi = pg_hi s k.toInt) (hx : x = b + 1) (ha : b ≤ 240) (hb : a ≤ b) (hn : ¬ pg_ch T n b = 32) (hk : k = pg_it s (pg_ch T n b)) (h1 : ¬ k = -1) (h2 : pg_hb g k = false) : r.1 = (false, p) := by
  generalize hq2 : pg_n2 T n lo hi x = q at hq
  obtain ⟨q1, v⟩ := q
  have hq : q1 = (false, p) := hq
  exact (h.norm hs hn hb).fail (hq2.trans (by rw [hq])) hl hh hx ha hn hk h1 h2
theorem pg_I.nextc {s : Bool} {fr a b x lo hi e : Int} {g g' m k i v : Int32} {V V' : Nat → Int32} {r : (Bool × Int) × (Nat → Int32)} (h : pg_I T n s fr a g V r) (hs : pg_s T n a = b) (hV : V' = upd V (Int32.toNatClampNeg i) v) (hi2 : i.toInt = fr + k.toInt) (hg : g' = g ||| m) (hm : m = (1 : Int32) <<< (k &&& 31)) (hq : pg_n2 T n lo hi x = ((true, e), v.toInt)) (hl : lo = pg_lo s k.toInt) (hh : hi = pg_hi s k.toInt) (hx : x = b + 1) (ha : b ≤ 240) (hb : a ≤ b) (hn : ¬ pg_ch T n b = 32) (hk : k = pg_it s (pg_ch T n b)) (h1 : ¬ k = -1) (h2 : pg_hb g k = false) (he : b < e) : pg_I T n s fr e g' V' r := by
  obtain ⟨f, h3, h4⟩ := (h.norm hs hn hb).sx ha hn hk h1 h2 hx hl hh hq
  refine ⟨f, by omega, ?_⟩
  rw [h4, hV, hg, hm]
  show pg_items T n s fr f e (g ||| ((1 : Int32) <<< (k &&& 31))) (upd V (fr + k.toInt).toNat (Int32.ofInt v.toInt)) = _
  rw [← hi2, Int32.ofInt_toInt]; rfl
/-! clauses of offices -/
def pg_ur (R : Nat → Int32) : Nat → Int32 := upd (upd (upd (upd R 0 20) 1 3) 2 4) 3 20
def pg_us (B : Nat → Int32) (m : Int) : Nat → Int32 := upd (upd (upd (upd (upd B m.toNat 3) (m + 1).toNat 4) (m + 2).toNat 3) (m + 3).toNat 0) (m + 4).toNat 0
theorem pg_ur.mk {f0 f1 f2 f3 f4 : Nat → Int32} {i0 i1 i2 i3 : Int32} (e4 : f4 = upd f3 (Int32.toNatClampNeg i3) 20) (e3 : f3 = upd f2 (Int32.toNatClampNeg i2) 4) (e2 : f2 = upd f1 (Int32.toNatClampNeg i1) 3) (e1 : f1 = upd f0 (Int32.toNatClampNeg i0) 20) (h0 : i0.toInt = 0) (h1 : i1.toInt = 1) (h2 : i2.toInt = 2) (h3 : i3.toInt = 3) : f4 = pg_ur f0 := by
  rw [e4, e3, e2, e1]
  have g0 : Int32.toNatClampNeg i0 = 0 := by show i0.toInt.toNat = 0; omega
  have g1 : Int32.toNatClampNeg i1 = 1 := by show i1.toInt.toNat = 1; omega
  have g2 : Int32.toNatClampNeg i2 = 2 := by show i2.toInt.toNat = 2; omega
  have g3 : Int32.toNatClampNeg i3 = 3 := by show i3.toInt.toNat = 3; omega
  rw [g0, g1, g2, g3]; rfl
theorem pg_us.mk {f0 f1 f2 f3 f4 f5 : Nat → Int32} {i0 i1 i2 i3 i4 : Int32} {m : Int} (e5 : f5 = upd f4 (Int32.toNatClampNeg i4) 0) (e4 : f4 = upd f3 (Int32.toNatClampNeg i3) 0) (e3 : f3 = upd f2 (Int32.toNatClampNeg i2) 3) (e2 : f2 = upd f1 (Int32.toNatClampNeg i1) 4) (e1 : f1 = upd f0 (Int32.toNatClampNeg i0) 3) (h0 : i0.toInt = m) (h1 : i1.toInt = m + 1) (h2 : i2.toInt = m + 2) (h3 : i3.toInt = m + 3) (h4 : i4.toInt = m + 4) : f5 = pg_us f0 m := by
  rw [e5, e4, e3, e2, e1]
  unfold pg_us
  rw [← h4, ← h3, ← h2, ← h1, ← h0]; rfl
def pg_wn (R B : Nat → Int32) : Nat → Bool
  | 0 => true
  | b + 1 => pg_wn R B b && decide ((B (5 * b + 3)).toInt < (R 1).toInt)
def pg_wh (nb : Int) (R B : Nat → Int32) : Bool := pg_wn R B nb.toNat
theorem pg_wh.zero {R B : Nat → Int32} {nb : Int} (h : nb = 0) : pg_wh nb R B = true := by subst h; rfl
theorem pg_wh.step {R B : Nat → Int32} {b c : Int} (h0 : 0 ≤ b) (hc : c = b + 1) : pg_wh c R B = (pg_wh b R B && decide ((B (5 * b + 3).toNat).toInt < (R 1).toInt)) := by
  unfold pg_wh
  rw [hc, show (b + 1).toNat = b.toNat + 1 by omega, show (5 * b + 3).toNat = 5 * b.toNat + 3 by omega]; rfl
theorem pg_wh.s0 {R B : Nat → Int32} {i j b c : Int} (h : (i = 1 ∧ pg_wh b R B = true) ∨ (i = 0 ∧ pg_wh b R B = false)) (hi : i = 0) (hj : j = 0) (h0 : 0 ≤ b) (hc : c = b + 1) : (j = 1 ∧ pg_wh c R B = true) ∨ (j = 0 ∧ pg_wh c R B = false) := by
  rcases h with ⟨h1, _⟩ | ⟨_, h2⟩
  · exfalso; omega
  · exact Or.inr ⟨hj, by rw [pg_wh.step h0 hc, h2]; rfl⟩
theorem pg_wh.s1 {R B : Nat → Int32} {i j b c : Int} {t u q w : Int32} (h : (i = 1 ∧ pg_wh b R B = true) ∨ (i = 0 ∧ pg_wh b R B = false)) (et : t = B (Int32.toNatClampNeg q)) (eu : u = R (Int32.toNatClampNeg w)) (hi : ¬ i = 0) (hj : j = 1) (hlt : t.toInt < u.toInt) (hq : q.toInt = 5 * b + 3) (hw : w.toInt = 1) (h0 : 0 ≤ b) (hc : c = b + 1) : (j = 1 ∧ pg_wh c R B = true) ∨ (j = 0 ∧ pg_wh c R B = false) := by
  rcases h with ⟨_, h2⟩ | ⟨h1, _⟩
  · refine Or.inl ⟨hj, ?_⟩
    have g1 : B (5 * b + 3).toNat = t := by rw [et, ← hq]; rfl
    have g2 : R 1 = u := by rw [eu]; show R 1 = R w.toInt.toNat; rw [hw]; rfl
    rw [pg_wh.step h0 hc, h2, g1, g2, decide_eq_true hlt]; rfl
  · exact absurd h1 hi
theorem pg_wh.s2 {R B : Nat → Int32} {i j b c : Int} {t u q w : Int32} (h : (i = 1 ∧ pg_wh b R B = true) ∨ (i = 0 ∧ pg_wh b R B = false)) (et : t = B (Int32.toNatClampNeg q)) (eu : u = R (Int32.toNatClampNeg w)) (hi : ¬ i = 0) (hj : j = 0) (hlt : ¬ t.toInt < u.toInt) (hq : q.toInt = 5 * b + 3) (hw : w.toInt = 1) (h0 : 0 ≤ b) (hc : c = b + 1) : (j = 1 ∧ pg_wh c R B = true) ∨ (j = 0 ∧ pg_wh c R B = false) := by
  rcases h with ⟨_, h2⟩ | ⟨h1, _⟩
  · refine Or.inr ⟨hj, ?_⟩
    have g1 : B (5 * b + 3).toNat = t := by rw [et, ← hq]; rfl
    have g2 : R 1 = u := by rw [eu]; show R 1 = R w.toInt.toNat; rw [hw]; rfl
    rw [pg_wh.step h0 hc, h2, g1, g2, decide_eq_false hlt]; rfl
  · exact absurd h1 hi
theorem pg_wh.e {R B : Nat → Int32} {i b nb : Int} (h : (i = 1 ∧ pg_wh b R B = true) ∨ (i = 0 ∧ pg_wh b R B = false)) (hb : b = nb) : (i = 1 ∧ pg_wh nb R B = true) ∨ (i = 0 ∧ pg_wh nb R B = false) := by rw [← hb]; exact h
abbrev pg_OR : Type := Int × Int × (Nat → Int32) × (Nat → Int32)
def pg_oc (q : (Bool × Int) × (Nat → Int32)) (F : Int → (Nat → Int32) → pg_OR) (G : Int → pg_OR) : pg_OR := match q with | ((true, e), V) => F e V | ((false, p), _) => G p
theorem pg_oc.ok {q : (Bool × Int) × (Nat → Int32)} {F : Int → (Nat → Int32) → pg_OR} {G : Int → pg_OR} {e : Int} {V : Nat → Int32} (h : q = ((true, e), V)) : pg_oc q F G = F e V := by rw [h]; rfl
theorem pg_oc.no {q : (Bool × Int) × (Nat → Int32)} {F : Int → (Nat → Int32) → pg_OR} {G : Int → pg_OR} {p : Int} (h : q.1 = (false, p)) : pg_oc q F G = G p := by
  obtain ⟨q1, V⟩ := q
  have h : q1 = (false, p) := h
  rw [h]; rfl
/-- the end of an office: g is where no ; stands -/
def pg_oe (T : Nat → Int32) (n g nb : Int) (R B : Nat → Int32) : pg_OR := if pg_ch T n g = -1 then (if pg_wh nb R B = true then (-1, nb, R, B) else (n, nb, R, B)) else (g, nb, R, B)
def pg_od (T : Nat → Int32) (n e nb : Int) (R B : Nat → Int32) (K : Int → pg_OR) : pg_OR := if pg_ch T n (pg_s T n e) = 59 then K (pg_s T n e + 1) else pg_oe T n (pg_s T n e) nb R B
theorem pg_od.go {e g y nb : Int} {R B : Nat → Int32} {K : Int → pg_OR} (hs : pg_s T n e = g) (hc : pg_ch T n g = 59) (hy : y = g + 1) : pg_od T n e nb R B K = K y := by
  unfold pg_od; rw [hs, if_pos hc, hy]
theorem pg_od.out {e g nb : Int} {R B : Nat → Int32} {K : Int → pg_OR} (hs : pg_s T n e = g) (hc : ¬ pg_ch T n g = 59) : pg_od T n e nb R B K = pg_oe T n g nb R B := by
  unfold pg_od; rw [hs, if_neg hc]
def pg_of (T : Nat → Int32) (n : Int) : Nat → Int → Int → Int → (Nat → Int32) → (Nat → Int32) → pg_OR
  | 0, a, _, nb, R, B => (a, nb, R, B)
  | f + 1, a, ir, nb, R, B =>
    if pg_ch T n (pg_s T n a) = 115 ∧ ir = 0 then pg_oc (pg_items T n true 0 300 (pg_s T n a + 1) 0 (pg_ur R)) (fun e R' => pg_od T n e nb R' B (fun x => pg_of T n f x 1 nb R' B)) (fun p => (p, nb, R, B))
    else if pg_ch T n (pg_s T n a) = 98 ∧ nb < 8 then pg_oc (pg_items T n false (5 * nb) 300 (pg_s T n a + 1) 0 (pg_us B (5 * nb))) (fun e B' => pg_od T n e (nb + 1) R B' (fun x => pg_of T n f x ir (nb + 1) R B')) (fun p => (p, nb, R, B))
    else (pg_s T n a, nb, R, B)
def pg_O (T : Nat → Int32) (n a ir nb : Int) (R B : Nat → Int32) (r : pg_OR) : Prop := ∃ f : Nat, 300 ≤ (f : Int) + a ∧ r = pg_of T n f a ir nb R B
theorem pg_O.of {a ir nb : Int} {R B : Nat → Int32} (h0 : 0 ≤ a) : pg_O T n a ir nb R B (pg_of T n 300 a ir nb R B) := ⟨300, by omega, rfl⟩
theorem pg_O.ini {a ir nb : Int} {R R0 B : Nat → Int32} (hR : R = R0) (h0 : 0 ≤ a) : pg_O T n a ir nb R B (pg_of T n 300 a ir nb R0 B) := by subst hR; exact pg_O.of h0
theorem pg_O.s {a b x ir nb : Int} {R B : Nat → Int32} {r : pg_OR} (h : pg_O T n a ir nb R B r) (ha : a ≤ 240) (hs : pg_s T n a = b) (hc : pg_ch T n b = 115) (hi : ir = 0) (hx : x = b + 1) : ∃ f : Nat, 300 ≤ (f : Int) + 1 + a ∧ r = pg_oc (pg_items T n true 0 300 x 0 (pg_ur R)) (fun e R' => pg_od T n e nb R' B (fun y => pg_of T n f y 1 nb R' B)) (fun p => (p, nb, R, B)) := by
  obtain ⟨f, h1, h2⟩ := h
  cases f with
  | zero => exfalso; omega
  | succ f =>
    refine ⟨f, by omega, ?_⟩
    rw [h2]
    conv => lhs; unfold pg_of
    rw [hs, if_pos ⟨hc, hi⟩, ← hx]
theorem pg_O.b {a b x fr ir nb : Int} {R B : Nat → Int32} {r : pg_OR} (h : pg_O T n a ir nb R B r) (ha : a ≤ 240) (hs : pg_s T n a = b) (hc : pg_ch T n b = 98) (hi : nb < 8) (hx : x = b + 1) (hf : fr = 5 * nb) : ∃ f : Nat, 300 ≤ (f : Int) + 1 + a ∧ r = pg_oc (pg_items T n false fr 300 x 0 (pg_us B fr)) (fun e B' => pg_od T n e (nb + 1) R B' (fun y => pg_of T n f y ir (nb + 1) R B')) (fun p => (p, nb, R, B)) := by
  obtain ⟨f, h1, h2⟩ := h
  cases f with
  | zero => exfalso; omega
  | succ f =>
    refine ⟨f, by omega, ?_⟩
    rw [h2]
    conv => lhs; unfold pg_of
    rw [hs, hc, if_neg (fun h => absurd h.1 (by decide)), if_pos ⟨rfl, hi⟩, ← hx, ← hf]
theorem pg_O.s1 {a b x e g y ir nb : Int} {R R' B : Nat → Int32} {r : pg_OR} (h : pg_O T n a ir nb R B r) (hI : pg_items T n true 0 300 x 0 (pg_ur R) = ((true, e), R')) (hd : pg_s T n e = g) (h59 : pg_ch T n g = 59) (hs : pg_s T n a = b) (hc : pg_ch T n b = 115) (hi : ir = 0) (hx : x = b + 1) (ha : a ≤ 240) (hy : y = g + 1) (hl : a < y) : pg_O T n y 1 nb R' B r := by
  obtain ⟨f, h1, h2⟩ := h.s ha hs hc hi hx
  exact ⟨f, by omega, h2.trans ((pg_oc.ok hI).trans (pg_od.go hd h59 hy))⟩
theorem pg_O.s0 {a b x e g ir nb : Int} {R R' B : Nat → Int32} {r : pg_OR} (h : pg_O T n a ir nb R B r) (hI : pg_items T n true 0 300 x 0 (pg_ur R) = ((true, e), R')) (hd : pg_s T n e = g) (h59 : ¬ pg_ch T n g = 59) (hs : pg_s T n a = b) (hc : pg_ch T n b = 115) (hi : ir = 0) (hx : x = b + 1) (ha : a ≤ 240) : r = pg_oe T n g nb R' B := by
  obtain ⟨f, h1, h2⟩ := h.s ha hs hc hi hx
  exact h2.trans ((pg_oc.ok hI).trans (pg_od.out hd h59))
theorem pg_O.sf {a b x p ir nb : Int} {R B : Nat → Int32} {r : pg_OR} (h : pg_O T n a ir nb R B r) (hI : (pg_items T n true 0 300 x 0 (pg_ur R)).1 = (false, p)) (hs : pg_s T n a = b) (hc : pg_ch T n b = 115) (hi : ir = 0) (hx : x = b + 1) (ha : a ≤ 240) : r.1 = p := by
  obtain ⟨f, h1, h2⟩ := h.s ha hs hc hi hx
  rw [h2, pg_oc.no hI]
theorem pg_O.b1 {a b x e g y fr ir nb nc : Int} {R B B' : Nat → Int32} {r : pg_OR} (h : pg_O T n a ir nb R B r) (hI : pg_items T n false fr 300 x 0 (pg_us B fr) = ((true, e), B')) (hd : pg_s T n e = g) (h59 : pg_ch T n g = 59) (hs : pg_s T n a = b) (hc : pg_ch T n b = 98) (hi : nb < 8) (hx : x = b + 1) (hf : fr = 5 * nb) (hn : nc = nb + 1) (ha : a ≤ 240) (hy : y = g + 1) (hl : a < y) : pg_O T n y ir nc R B' r := by
  obtain ⟨f, h1, h2⟩ := h.b ha hs hc hi hx hf
  subst hn
  exact ⟨f, by omega, h2.trans ((pg_oc.ok hI).trans (pg_od.go hd h59 hy))⟩
theorem pg_O.b0 {a b x e g fr ir nb nc : Int} {R B B' : Nat → Int32} {r : pg_OR} (h : pg_O T n a ir nb R B r) (hI : pg_items T n false fr 300 x 0 (pg_us B fr) = ((true, e), B')) (hd : pg_s T n e = g) (h59 : ¬ pg_ch T n g = 59) (hs : pg_s T n a = b) (hc : pg_ch T n b = 98) (hi : nb < 8) (hx : x = b + 1) (hf : fr = 5 * nb) (hn : nc = nb + 1) (ha : a ≤ 240) : r = pg_oe T n g nc R B' := by
  obtain ⟨f, h1, h2⟩ := h.b ha hs hc hi hx hf
  subst hn
  exact h2.trans ((pg_oc.ok hI).trans (pg_od.out hd h59))
theorem pg_O.bf {a b x p fr ir nb : Int} {R B : Nat → Int32} {r : pg_OR} (h : pg_O T n a ir nb R B r) (hI : (pg_items T n false fr 300 x 0 (pg_us B fr)).1 = (false, p)) (hs : pg_s T n a = b) (hc : pg_ch T n b = 98) (hi : nb < 8) (hx : x = b + 1) (hf : fr = 5 * nb) (ha : a ≤ 240) : r.1 = p := by
  obtain ⟨f, h1, h2⟩ := h.b ha hs hc hi hx hf
  rw [h2, pg_oc.no hI]
theorem pg_O.w {a b p ir nb : Int} {R B : Nat → Int32} {r : pg_OR} (h : pg_O T n a ir nb R B r) (hs : pg_s T n a = b) (h1 : ¬ (pg_ch T n b = 115 ∧ ir = 0)) (h2 : ¬ (pg_ch T n b = 98 ∧ nb < 8)) (ha : a ≤ 240) (hp : p = b) : r.1 = p := by
  obtain ⟨f, h3, h4⟩ := h
  cases f with
  | zero => exfalso; omega
  | succ f => rw [h4]; unfold pg_of; rw [hs, if_neg h1, if_neg h2, hp]
theorem pg_oe.good {g nb : Int} {R B : Nat → Int32} {r : pg_OR} (h : r = pg_oe T n g nb R B) (hc : pg_ch T n g = -1) (hw : pg_wh nb R B = true) : r = (-1, nb, R, B) := by
  rw [h]; unfold pg_oe; rw [if_pos hc, if_pos hw]
theorem pg_oe.bad1 {g nb p : Int} {R B : Nat → Int32} {r : pg_OR} (h : r = pg_oe T n g nb R B) (hc : ¬ pg_ch T n g = -1) (hp : p = g) : r.1 = p := by
  rw [h, hp]; unfold pg_oe; rw [if_neg hc]
theorem pg_oe.bad2 {g nb p : Int} {R B : Nat → Int32} {r : pg_OR} (h : r = pg_oe T n g nb R B) (hw : pg_wh nb R B = false) (hc : pg_ch T n g = -1) (hp : p = n) : r.1 = p := by
  rw [h, hp]; unfold pg_oe; rw [if_pos hc, if_neg (by rw [hw]; decide)]
/-! the finger stays within the tape -/
theorem pg_sk.le : ∀ (f : Nat) {a : Int}, a ≤ n → pg_sk T n f a ≤ n
  | 0, a, h => h
  | f + 1, a, h => by
    show (if pg_ch T n a = 32 then pg_sk T n f (a + 1) else a) ≤ n
    by_cases e : pg_ch T n a = 32
    · rw [if_pos e]
      refine pg_sk.le f ?_
      rcases (show a < n ∨ a = n by omega) with e2 | e2
      · omega
      · rw [pg_ch.off (by omega)] at e; exact absurd e (by decide)
    · rw [if_neg e]; exact h
theorem pg_s.le {a : Int} (h : a ≤ n) : pg_s T n a ≤ n := pg_sk.le 300 h
theorem pg_ch.lt {a : Int} (h : ¬ pg_ch T n a = -1) : a < n := by
  rcases (show a < n ∨ n ≤ a by omega) with e | e
  · exact e
  · exact absurd (pg_ch.off e) h
theorem pg_n2.le {lo hi a e v : Int} (h : pg_n2 T n lo hi a = ((true, e), v)) : e ≤ n := by
  unfold pg_n2 at h
  by_cases e1 : 48 ≤ pg_ch T n (pg_s T n a) ∧ pg_ch T n (pg_s T n a) ≤ 57
  · rw [if_pos e1] at h
    have l1 : pg_s T n a < n := pg_ch.lt (T := T) (by omega)
    by_cases e2 : 48 ≤ pg_ch T n (pg_s T n a + 1) ∧ pg_ch T n (pg_s T n a + 1) ≤ 57
    · rw [if_pos e2] at h
      have l2 : pg_s T n a + 1 < n := pg_ch.lt (T := T) (by omega)
      unfold pg_nb at h
      split at h
      · exact absurd (congrArg (fun z => z.1.1) h) (by simp)
      · split at h
        · have := congrArg (fun z => z.1.2) h; simp at this; omega
        · exact absurd (congrArg (fun z => z.1.1) h) (by simp)
    · rw [if_neg e2] at h
      unfold pg_nb at h
      split at h
      · exact absurd (congrArg (fun z => z.1.1) h) (by simp)
      · split at h
        · have := congrArg (fun z => z.1.2) h; simp at this; omega
        · exact absurd (congrArg (fun z => z.1.1) h) (by simp)
  · rw [if_neg e1] at h
    exact absurd (congrArg (fun z => z.1.1) h) (by simp)
theorem pg_items.le {s : Bool} {fr : Int} : ∀ (f : Nat) {a e : Int} {g : Int32} {V V' : Nat → Int32}, pg_items T n s fr f a g V = ((true, e), V') → a ≤ n → e ≤ n
  | 0, a, e, g, V, V', h, ha => by
    have := congrArg (fun z => z.1.2) h
    have h2 : pg_s T n a = e := this
    rw [← h2]; exact pg_s.le ha
  | f + 1, a, e, g, V, V', h, ha => by
    unfold pg_items at h
    split at h
    · have h2 : pg_s T n a = e := congrArg (fun z => z.1.2) h
      rw [← h2]; exact pg_s.le ha
    · generalize hq : pg_n2 T n _ _ _ = q at h
      obtain ⟨⟨b, x⟩, v⟩ := q
      cases b with
      | false => exact absurd (congrArg (fun z => z.1.1) h) (by simp [pg_itc])
      | true => exact pg_items.le f h (pg_n2.le hq)
theorem pg_items.s {s : Bool} {fr a e b : Int} {g : Int32} {V V' : Nat → Int32} (h : pg_items T n s fr 300 a g V = ((true, e), V')) (hs : pg_s T n e = b) (ha : a ≤ n) : b ≤ n := by
  rw [← hs]; exact pg_s.le (pg_items.le 300 h ha)
end PGO
/-! static rows of numbers, told exactly -/
def pv_Xt (t n : Nat) (f : Nat → Int32) (A : Nat → Prop) (U : State) (H : Heap) : Prop := va_X t n f U H ∧ ¬ A t
theorem pv_Xt.narrow {t n : Nat} {f : Nat → Int32} {A B : Nat → Prop} {U : State} {H : Heap} (h : pv_Xt t n f A U H) (hAB : ∀ q, B q → A q) : pv_Xt t n f B U H := ⟨h.1, fun z => h.2 (hAB t z)⟩
theorem pv_Xt.kept {t n : Nat} {f : Nat → Int32} {A : Nat → Prop} {U : State} {H H1 : Heap} (h : pv_Xt t n f A U H) (hq : ∀ a : Nat, a < H.size → ¬ A a → H1[a]? = H[a]?) : pv_Xt t n f A U H1 := ⟨pv_X_kept h.1 h.2 hq, h.2⟩
theorem pv_Xt.moved {t n : Nat} {f : Nat → Int32} {A : Nat → Prop} {u U : State} {H : Heap} (hvm : u.vm.Alike U.vm) (h : pv_Xt t n f A u H) : pv_Xt t n f A U H := by
  obtain ⟨⟨scr, g1, g2, g3⟩, h3⟩ := h
  exact ⟨⟨scr, g1, State.isArrayOf_alike hvm g2, g3⟩, h3⟩
def pv_Sv (nm : String) (n : Nat) (f : Nat → Int32) (A : Nat → Prop) (U : State) (H : Heap) : Prop := ∃ t : Nat, va_Z RX6 nm "[I" (.ref t) A U H ∧ va_X t n f U H ∧ ¬ A t
theorem pv_Sv.narrow {nm : String} {n : Nat} {f : Nat → Int32} {A B : Nat → Prop} {U : State} {H : Heap} (h : pv_Sv nm n f A U H) (hAB : ∀ q, B q → A q) : pv_Sv nm n f B U H := by
  obtain ⟨t, h1, h2, h3⟩ := h
  exact ⟨t, h1.narrow hAB, h2, fun h => h3 (hAB t h)⟩
theorem pv_Sv.kept {nm : String} {n : Nat} {f : Nat → Int32} {A : Nat → Prop} {U : State} {H H1 : Heap} (h : pv_Sv nm n f A U H) (hq : ∀ a : Nat, a < H.size → ¬ A a → H1[a]? = H[a]?) : pv_Sv nm n f A U H1 := by
  obtain ⟨t, h1, h2, h3⟩ := h
  exact ⟨t, h1.kept hq, pv_X_kept h2 h3 hq, h3⟩
theorem pv_Sv.moved {nm : String} {n : Nat} {f : Nat → Int32} {A : Nat → Prop} {u U : State} {H : Heap} (hvm : u.vm.Alike U.vm) (h : pv_Sv nm n f A u H) : pv_Sv nm n f A U H := by
  obtain ⟨t, h1, ⟨scr, g1, g2, g3⟩, h3⟩ := h
  exact ⟨t, h1.moved hvm, ⟨scr, g1, State.isArrayOf_alike hvm g2, g3⟩, h3⟩
def pv_tb_RULE_LEAST : Nat → Int32 := fun j => if j = 0 then 1 else if j = 1 then 1 else if j = 2 then 0 else if j = 3 then 0 else 0
def pv_tb_RULE_MOST : Nat → Int32 := fun j => if j = 0 then 60 else if j = 1 then 5 else if j = 2 then 9 else if j = 3 then 99 else 0
def pv_tb_RULE_USUAL : Nat → Int32 := fun j => if j = 0 then 20 else if j = 1 then 3 else if j = 2 then 4 else if j = 3 then 20 else 0
def pv_tb_BAG_LEAST : Nat → Int32 := fun j => if j = 0 then 1 else if j = 1 then 0 else if j = 2 then 0 else if j = 3 then 0 else if j = 4 then 0 else 0
def pv_tb_BAG_MOST : Nat → Int32 := fun j => if j = 0 then 30 else if j = 1 then 9 else if j = 2 then 9 else if j = 3 then 4 else if j = 4 then 1 else 0
def pv_tb_BAG_USUAL : Nat → Int32 := fun j => if j = 0 then 3 else if j = 1 then 4 else if j = 2 then 3 else if j = 3 then 0 else if j = 4 then 0 else 0
section PVCPY
variable {p : Program} {l : Launch} {e : Env} {R : Room} {s : State} {m : MethodId} {args : Array Value} {below : List Frame} {meth : Method} {c : Code} {H : Heap} {locs : List Loc} {cells slots : Nat} {Q : State → Prop}
variable {cc : ByteArray} {pc : Nat} {ls : Array Slot} {rest : List Value} {D : va_G} {cl : List vw_C} {A : Nat → Prop} {a : Nat} {tys : List (ClassId × FieldType)} {ws : va_W} {H0 : Heap}
theorem pv_copyx (hexec : p.tables.exec = Jvm.exec) (hb : c.code = cc) (hml : c.maxLocals = ls.size) {own : String} {index : Nat} (hown : s.vm.findClass own = some m.cls) (hlink : (Cond.methodLink own index arraycopyName).before args s = true) (hnat : (Cond.native arraycopyName).before args s = true) (hstat : (Cond.static arraycopyName).before args s = true) (hini : (Cond.initialized "java/lang/System").before args s = true)
    (hK : va_K D cl tys s) (hP : va_P D cl ws H) (hD : va_D A ws) (hS : va_S A H0 H locs) (q1 t1 : Nat) {a0 : Nat} {c1 : ClassId} {n0 n1 : Nat} {f g : Nat → Int32} (hX : va_X a0 n0 f s H) (ha1 : ws[q1]? = some (a, .inl (c1, n1, .inl g))) (ht1 : tys[t1]? = some (c1, .int))
    {sp dp n : Int32} (h1 : ¬ sp < 0) (h2 : ¬ dp < 0) (h3 : ¬ n < 0) (h4 : sp.toNatClampNeg + n.toNatClampNeg ≤ n0) (h5 : dp.toNatClampNeg + n.toNatClampNeg ≤ n1)
    (hframes : 1 ≤ R.frames) (hlocals : (rest.map fun v => v.category).sum + (nativeFrameWords "java/lang/System" "arraycopy" 5 + 11) ≤ R.locals) (hdg : decode cc pc = .ok (.invokestatic index, 3))
    (kk : ∀ (H1 : Heap) (locs1 : List Loc), va_P D cl (ws.set q1 (a, .inl (c1, n1, .inl (va_cpy f g sp.toNatClampNeg dp.toNatClampNeg n.toNatClampNeg)))) H1 → va_D A (ws.set q1 (a, .inl (c1, n1, .inl (va_cpy f g sp.toNatClampNeg dp.toNatClampNeg n.toNatClampNeg)))) → va_S A H0 H1 locs1 → W p l e R s m args below meth c H1 locs1 cells slots Q (F0 m (pc + 3) ls rest)) : W p l e R s m args below meth c H locs cells slots Q (F0 m pc ls (.int n :: .int dp :: .ref a :: .int sp :: .ref a0 :: rest)) := by
  have nn : ∀ z : Int32, ¬ z < 0 → z.toInt = (z.toNatClampNeg : Int) := by
    intro z hz
    have hz0 : (0 : Int) ≤ z.toInt := by
      have := Int32.not_lt.mp hz
      simpa using Int32.le_iff_toInt_le.mp this
    show z.toInt = ((z.toInt.toNat : Nat) : Int)
    omega
  intro T hT X
  have hc1 : H[a]? = some (vp_cell c1 (n1, .inl g)) := hP q1 _ ha1
  obtain ⟨scr, hc0, ⟨hst0, k0, hk0, cm0, hkk0⟩, hkn0, hsz0, hval0⟩ := hX
  have hgd : ∀ i, i < n.toNatClampNeg → scr.slots.getD (sp.toNatClampNeg + i) .null = .int (f (sp.toNatClampNeg + i)) := by
    intro i hi
    rw [Array.getD_eq_getD_getElem?, hval0 _ (by omega)]
    rfl
  obtain ⟨-, k1, hk1, cm1, hkk1⟩ := (hK.2 t1 _ ht1).1 n1 (fun j => .int (g j))
  obtain ⟨vm', X', step⟩ := X.arraycopy hexec hown hlink hnat hstat hini (src := a0) (dst := a) (cs := scr) (cd := vp_cell c1 (n1, .inl g)) (srcPos := sp) (destPos := dp) (n := n) (by rw [hT]; exact hc0) (by rw [hT]; exact hc1)
    hst0 (fun _ h => by cases h) hkn0 (fun h => by cases h) hk0 hk1 hkk0 hkk1 (by simp [refKind]) h1 h2 h3
    (by rw [nn sp h1, nn n h3, hsz0]; omega)
    (by rw [nn dp h2, nn n h3]; show ¬ _ > ((arrV c1 n1 (fun j => .int (g j))).slots.size : Int); rw [arrV_size]; omega)
    (fun vm₁ _ i hi => by
      rw [hgd i hi]
      exact ⟨rfl, trivial⟩)
    (g := F0 m pc ls (.int n :: .int dp :: .ref a :: .int sp :: .ref a0 :: rest)) rfl (by rw [hml]) (rest := rest) rfl (by rw [hb]; exact hdg) hframes (by show 2 * 0 + _ + _ ≤ _; omega)
  have hstr : scr.stretch sp.toNatClampNeg n.toNatClampNeg = (arrV c1 n0 (fun j => .int (f j))).stretch sp.toNatClampNeg n.toNatClampNeg := by
    unfold Cell.stretch
    apply List.map_congr_left
    intro i hi
    have hi' := List.mem_range.mp hi
    rw [hgd i hi', Array.getD_eq_getD_getElem?, arrV_read _ _ (by omega)]
    rfl
  have e1 : copied scr (vp_cell c1 (n1, .inl g)) sp dp n = vp_cell c1 (n1, .inl (va_cpy f g sp.toNatClampNeg dp.toNatClampNeg n.toNatClampNeg)) := by
    show (vp_cell c1 (n1, .inl g)).storeRun dp.toNatClampNeg (scr.stretch sp.toNatClampNeg n.toNatClampNeg) = _
    rw [hstr]
    exact va_copied (fun z => .int z) c1 c1 f g h4
  rw [e1] at X' step
  have hl : a < H.size := (Array.getElem?_eq_some_iff.mp hc1).1
  have hheap : ((T.setVm vm').setCell a (vp_cell c1 (n1, .inl (va_cpy f g sp.toNatClampNeg dp.toNatClampNeg n.toNatClampNeg)))).heap = H.setIfInBounds a (vp_cell c1 (n1, .inl (va_cpy f g sp.toNatClampNeg dp.toNatClampNeg n.toNatClampNeg))) := by rw [← hT]; rfl
  have oq : ∀ q : Nat, q ≠ a → (H.setIfInBounds a (vp_cell c1 (n1, .inl (va_cpy f g sp.toNatClampNeg dp.toNatClampNeg n.toNatClampNeg))))[q]? = H[q]? := fun q hq => by simp [Array.getElem?_setIfInBounds, Ne.symm hq]
  obtain ⟨t, a1, b1⟩ := kk _ _ (hP.set hD ha1 (show (H.setIfInBounds a _)[a]? = some _ by simp [Array.getElem?_setIfInBounds, hl]) oq) (hD.set ha1) ⟨by simp; exact hS.1, fun q g1 g2 => by
      rw [oq q (fun e => g2 (by rw [e]; exact hD.2 q1 _ ha1))]
      exact hS.2.1 q g1 g2, fun q hq => by
      rcases List.mem_append.mp hq with h | h
      · exact hS.2.2 q h
      · obtain ⟨z, -, hz⟩ := List.mem_map.mp h
        rw [← hz]
        exact hD.2 q1 _ ha1⟩ _ hheap X'
  exact ⟨t, step t a1, b1⟩
end PVCPY
