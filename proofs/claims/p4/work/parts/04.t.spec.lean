theorem b_or (x y : Int32) (i : Nat) : bt (x ||| y) i = (bt x i || bt y i) := by unfold bt; rw [Int32.toBitVec_or, BitVec.getLsbD_or]
theorem b_shl (n : Nat) (hn : n < 32) (x : Int32) {i : Nat} (hi : i < 32) : bt (x <<< (nI n &&& 31)) i = (decide (n ≤ i) && bt x (i - n)) := by
  unfold bt
  rw [Int32.toBitVec_shiftLeft]
  show (x.toBitVec <<< ((nI n &&& 31).toBitVec.smod 32).toNat).getLsbD i = _
  rw [s_l n hn, BitVec.getLsbD_shiftLeft]
  rcases Nat.lt_or_ge i n with h | h
  · simp [h, Nat.not_le.mpr h]
  · simp [hi, h, Nat.not_lt.mpr h]
/-! letters, met items, tables -/
section PGX
variable {T : Nat → Int32} {n : Int}
theorem pg_i8 {v t : Int32} (e : t = v.toInt8.toInt32) (h0 : 0 ≤ v.toInt) (h1 : v.toInt ≤ 255) : (v.toInt < 128 ∧ t.toInt = v.toInt) ∨ (128 ≤ v.toInt ∧ t.toInt = v.toInt - 256) := by
  have h : t.toInt = Int.bmod v.toInt (2 ^ 8) := by rw [e, Int8.toInt_toInt32, Int32.toInt_toInt8]
  have h2 : Int.bmod v.toInt (2 ^ 8) = if v.toInt % 256 < 128 then v.toInt % 256 else v.toInt % 256 - 256 := rfl
  rw [h, h2]
  by_cases c : v.toInt % 256 < 128
  · rw [if_pos c]; left; omega
  · rw [if_neg c]; right; omega
theorem pg_i2c {t x : Int32} {y : Int} (e : t = (x.toUInt32 % 65536).toInt32) (hx : x.toInt = y) (h0 : 0 ≤ x.toInt) (h1 : x.toInt ≤ 65535) : t.toInt = y := by
  have k : x.toInt = if 2 * x.toBitVec.toNat < 2 ^ 32 then (x.toBitVec.toNat : Int) else (x.toBitVec.toNat : Int) - ((2 ^ 32 : Nat) : Int) := BitVec.toInt_eq_toNat_cond _
  have kl := x.toBitVec.isLt
  have hk : x.toBitVec.toNat < 65536 := by split at k <;> omega
  have e2 : x.toUInt32 % 65536 = x.toUInt32 := UInt32.toNat_inj.mp (by rw [UInt32.toNat_mod, show (65536 : UInt32).toNat = 65536 from rfl]; exact Nat.mod_eq_of_lt hk)
  rw [e, e2]
  exact hx
theorem pg_nIk {k : Int32} (h : 0 ≤ k.toInt) : k = nI k.toInt.toNat := by
  have h2 := Int32.toInt_lt k
  exact Int32.toInt_inj.mp (by rw [nI_toInt (by omega)]; omega)
theorem pg_b1i : ∀ i, i < 32 → 0 < i → bt 1 i = false := by decide +kernel
theorem pg_hbt {g : Int32} {j : Nat} (hj : j < 31) : pg_hb g (nI j) = bt g j := by
  unfold pg_hb
  have e : ((g >>> (nI j &&& 31)) &&& 1 = 1) ↔ bt g j = true := by
    constructor
    · intro h
      have h2 : bt ((g >>> (nI j &&& 31)) &&& 1) 0 = true := by rw [h]; decide
      rw [b_and, b_sshr j (by omega) g (by omega), if_pos (by omega), Nat.add_zero] at h2
      cases hb : bt g j with
      | true => rfl
      | false => rw [hb] at h2; exact absurd h2 (by decide)
    · intro h
      apply b_ext
      intro i hi
      rw [b_and, b_sshr j (by omega) g hi]
      rcases Nat.eq_zero_or_pos i with hp | hp
      · subst hp
        rw [if_pos (by omega), Nat.add_zero, h]; rfl
      · rw [pg_b1i i hi hp, Bool.and_false]
  cases hb : bt g j with
  | true => exact decide_eq_true (e.mpr hb)
  | false => exact decide_eq_false (fun h => by rw [e.mp h] at hb; exact Bool.noConfusion hb)
def pg_pc : Nat → Int32 → Nat
  | 0, _ => 0
  | k + 1, g => pg_pc k g + (if bt g k = true then 1 else 0)
theorem pg_pc.le (g : Int32) : ∀ k, pg_pc k g ≤ k
  | 0 => Nat.le_refl _
  | k + 1 => by
    show pg_pc k g + (if bt g k = true then 1 else 0) ≤ k + 1
    have := pg_pc.le g k
    split <;> omega
theorem pg_orb {g : Int32} {j i : Nat} (hj : j < 31) (hi : i < 32) : bt (g ||| ((1 : Int32) <<< (nI j &&& 31))) i = (bt g i || decide (i = j)) := by
  rw [b_or, b_shl j (by omega) 1 hi]
  rcases Nat.lt_trichotomy i j with h | h | h
  · rw [decide_eq_false (show ¬ j ≤ i by omega), decide_eq_false (show ¬ i = j by omega)]; rfl
  · subst h
    rw [decide_eq_true (Nat.le_refl i), decide_eq_true (rfl : i = i), Nat.sub_self]; rfl
  · rw [decide_eq_true (show j ≤ i by omega), decide_eq_false (show ¬ i = j by omega), pg_b1i (i - j) (by omega) (by omega)]; rfl
theorem pg_pc.or {g : Int32} {j : Nat} (hj : j < 31) (hb : bt g j = false) : ∀ k, k ≤ 31 → pg_pc k (g ||| ((1 : Int32) <<< (nI j &&& 31))) = pg_pc k g + (if j < k then 1 else 0)
  | 0, _ => rfl
  | k + 1, hk => by
    show pg_pc k (g ||| ((1 : Int32) <<< (nI j &&& 31))) + (if bt (g ||| ((1 : Int32) <<< (nI j &&& 31))) k = true then 1 else 0) = pg_pc k g + (if bt g k = true then 1 else 0) + (if j < k + 1 then 1 else 0)
    rw [pg_pc.or hj hb k (by omega), pg_orb hj (by omega)]
    rcases Nat.lt_trichotomy k j with h | h | h
    · rw [decide_eq_false (show ¬ k = j by omega), Bool.or_false, if_neg (show ¬ j < k by omega), if_neg (show ¬ j < k + 1 by omega), Nat.add_zero, Nat.add_zero]
    · subst h
      rw [hb, decide_eq_true rfl, if_neg (show ¬ k < k by omega), if_pos (show k < k + 1 by omega)]; rfl
    · rw [decide_eq_false (show ¬ k = j by omega), Bool.or_false, if_pos h, if_pos (show j < k + 1 by omega)]; omega
theorem pg_pcs {L : Nat} {g g' m k : Int32} {i i' : Int} (h : pg_pc L g = i.toNat) (hg : g' = g ||| m) (hm : m = (1 : Int32) <<< (k &&& 31)) (h2 : pg_hb g k = false) (h0 : 0 ≤ k.toInt) (h1 : k.toInt < (L : Int)) (hL : L ≤ 31) (hi : i' = i + 1) (hi0 : 0 ≤ i) : pg_pc L g' = i'.toNat := by
  have hj : k.toInt.toNat < L := by omega
  have hk := pg_nIk h0
  generalize k.toInt.toNat = j at hk hj
  subst hk
  rw [pg_hbt (by omega)] at h2
  rw [hg, hm, pg_pc.or (by omega) h2 L hL, if_pos hj, h, hi]
  omega
theorem pg_pcx {L : Nat} {g : Int32} {i : Int} (h : pg_pc L g = i.toNat) (hi : (L : Int) < i) : False := by
  have := pg_pc.le g L
  omega
theorem pg_atomF.nmc {m : Bool} {S : Int → Bool × Int} {a b : Int} {r : Bool × Int} (hs : pg_s T n a = b) (h : pg_nm T n 4 (pg_s T n b) = r) (hn : ¬ pg_ch T n b = 32) (h1 : 48 ≤ pg_ch T n b) (h2 : pg_ch T n b ≤ 57) : pg_atomF T n m S a = r := pg_atomF.num hs h1 h2 (by rw [pg_s.here hn] at h; exact h)
theorem pg_atomF.nmf {m : Bool} {S : Int → Bool × Int} {a b p : Int} (hs : pg_s T n a = b) (h : (¬ (48 ≤ pg_ch T n (pg_s T n b) ∧ pg_ch T n (pg_s T n b) ≤ 57) ∧ p = pg_s T n b) ∨ pg_nm T n 4 (pg_s T n b) = (false, p)) (hn : ¬ pg_ch T n b = 32) (h1 : 48 ≤ pg_ch T n b) (h2 : pg_ch T n b ≤ 57) : pg_atomF T n m S a = (false, p) := by
  rw [pg_s.here hn] at h
  rcases h with h | h
  · exact absurd ⟨h1, h2⟩ h.1
  · exact pg_atomF.num hs h1 h2 h
theorem pg_atomF.bdn {m : Bool} {S : Int → Bool × Int} {a b p : Int} (hs : pg_s T n a = b) (hc : pg_ch T n b = -1) (hp : p = b) : pg_atomF T n m S a = (false, p) := by
  refine pg_atomF.bad hs ?_ ?_ ?_ hp <;> rw [hc] <;> decide
theorem pg_tb4 {k : Int32} {P : Int → Prop} (h0 : 0 ≤ k.toInt) (h3 : k.toInt ≤ 3) (p0 : P 0) (p1 : P 1) (p2 : P 2) (p3 : P 3) : P k.toInt := by
  rcases (show k.toInt = 0 ∨ k.toInt = 1 ∨ k.toInt = 2 ∨ k.toInt = 3 by omega) with e | e | e | e <;> rw [e] <;> assumption
theorem pg_tb5 {k : Int32} {P : Int → Prop} (h0 : 0 ≤ k.toInt) (h3 : k.toInt ≤ 4) (p0 : P 0) (p1 : P 1) (p2 : P 2) (p3 : P 3) (p4 : P 4) : P k.toInt := by
  rcases (show k.toInt = 0 ∨ k.toInt = 1 ∨ k.toInt = 2 ∨ k.toInt = 3 ∨ k.toInt = 4 by omega) with e | e | e | e | e <;> rw [e] <;> assumption
theorem pg_tbl {t k : Int32} (e : t = pv_tb_RULE_LEAST (Int32.toNatClampNeg k)) (h0 : 0 ≤ k.toInt) (h3 : k.toInt ≤ 3) : t.toInt = pg_lo true k.toInt := by
  rw [e]; show (pv_tb_RULE_LEAST k.toInt.toNat).toInt = pg_lo true k.toInt
  exact pg_tb4 (P := fun z => (pv_tb_RULE_LEAST z.toNat).toInt = pg_lo true z) h0 h3 (by decide) (by decide) (by decide) (by decide)
theorem pg_tbh {t k : Int32} (e : t = pv_tb_RULE_MOST (Int32.toNatClampNeg k)) (h0 : 0 ≤ k.toInt) (h3 : k.toInt ≤ 3) : t.toInt = pg_hi true k.toInt := by
  rw [e]; show (pv_tb_RULE_MOST k.toInt.toNat).toInt = pg_hi true k.toInt
  exact pg_tb4 (P := fun z => (pv_tb_RULE_MOST z.toNat).toInt = pg_hi true z) h0 h3 (by decide) (by decide) (by decide) (by decide)
theorem pg_tcl {t k : Int32} (e : t = pv_tb_BAG_LEAST (Int32.toNatClampNeg k)) (h0 : 0 ≤ k.toInt) (h3 : k.toInt ≤ 4) : t.toInt = pg_lo false k.toInt := by
  rw [e]; show (pv_tb_BAG_LEAST k.toInt.toNat).toInt = pg_lo false k.toInt
  exact pg_tb5 (P := fun z => (pv_tb_BAG_LEAST z.toNat).toInt = pg_lo false z) h0 h3 (by decide) (by decide) (by decide) (by decide) (by decide)
theorem pg_tch {t k : Int32} (e : t = pv_tb_BAG_MOST (Int32.toNatClampNeg k)) (h0 : 0 ≤ k.toInt) (h3 : k.toInt ≤ 4) : t.toInt = pg_hi false k.toInt := by
  rw [e]; show (pv_tb_BAG_MOST k.toInt.toNat).toInt = pg_hi false k.toInt
  exact pg_tb5 (P := fun z => (pv_tb_BAG_MOST z.toNat).toInt = pg_hi false z) h0 h3 (by decide) (by decide) (by decide) (by decide) (by decide)
theorem pg_itn (s : Bool) : pg_it s (-1) = -1 := by cases s <;> decide
theorem pg_rl0 {s : Bool} {g : Int32} {a b : Int} (hs : pg_s T n a = b) (hc : pg_ch T n b = -1) : pg_it s (pg_ch T n (pg_s T n a)) = -1 ∨ pg_hb g (pg_it s (pg_ch T n (pg_s T n a))) = true := by
  rw [hs, hc, pg_itn]; exact Or.inl rfl
theorem pg_rl1 {s : Bool} {g k c : Int32} {a b : Int} (hs : pg_s T n a = b) (hk : k = pg_it s c.toInt) (hc : c.toInt = pg_ch T n b) (hn : k.toInt = -1) : pg_it s (pg_ch T n (pg_s T n a)) = -1 ∨ pg_hb g (pg_it s (pg_ch T n (pg_s T n a))) = true := by
  rw [hs, ← hc, ← hk]; exact Or.inl (Int32.toInt_inj.mp (by rw [hn]; decide))
theorem pg_rl2 {s : Bool} {g k c u w : Int32} {a b : Int} (hs : pg_s T n a = b) (hk : k = pg_it s c.toInt) (hc : c.toInt = pg_ch T n b) (hu : u = g >>> (k &&& 31)) (hw : w = u &&& 1) (h1 : w.toInt = 1) : pg_it s (pg_ch T n (pg_s T n a)) = -1 ∨ pg_hb g (pg_it s (pg_ch T n (pg_s T n a))) = true := by
  rw [hs, ← hc, ← hk]; refine Or.inr (decide_eq_true ?_)
  rw [← hu, ← hw]; exact Int32.toInt_inj.mp (by rw [h1]; decide)
theorem pg_rl3 {s : Bool} {k c : Int32} {a b : Int} (hs : pg_s T n a = b) (hk : k = pg_it s c.toInt) (hc : c.toInt = pg_ch T n b) : k = pg_it s (pg_ch T n (pg_s T n a)) := by
  rw [hs, ← hc]; exact hk
theorem pg_hb0 {g k u w : Int32} (hu : u = g >>> (k &&& 31)) (hw : w = u &&& 1) (h1 : ¬ w.toInt = 1) : pg_hb g k = false := by
  refine decide_eq_false (fun h => h1 ?_)
  rw [hw, hu, h]; decide
theorem pg_I.outc {s : Bool} {fr a b : Int} {g : Int32} {V : Nat → Int32} {r : (Bool × Int) × (Nat → Int32)} (h : pg_I T n s fr a g V r) (hs : pg_s T n a = b) (hn : ¬ pg_ch T n b = 32) (he : pg_ch T n b = -1 ∨ pg_ch T n b = 59) (hb : a ≤ b) : r = ((true, b), V) := by
  refine (h.norm hs hn hb).out hn rfl (Or.inl ?_)
  rcases he with e | e <;> rw [e] <;> cases s <;> decide
theorem pg_I.oute {s : Bool} {fr a b p : Int} {g : Int32} {V : Nat → Int32} {r : (Bool × Int) × (Nat → Int32)} (h : pg_I T n s fr a g V r) (hs : pg_s T n a = b) (hk : pg_it s (pg_ch T n b) = -1 ∨ pg_hb g (pg_it s (pg_ch T n b)) = true) (hn : ¬ pg_ch T n b = 32) (he : ¬ (pg_ch T n b = -1 ∨ pg_ch T n b = 59)) (hb : a ≤ b) (hp : p = b) : r.1 = (false, p) ∨ ∃ W, r = ((true, p), W) ∧ ¬ (pg_ch T n p = -1 ∨ pg_ch T n p = 59) ∧ ¬ pg_ch T n p = 32 := by
  rw [hp]
  exact Or.inr ⟨V, (h.norm hs hn hb).out hn rfl hk, he, hn⟩
theorem pg_I.nextd {s : Bool} {fr a b x lo hi e : Int} {g g' m k i v : Int32} {V V' : Nat → Int32} {r : (Bool × Int) × (Nat → Int32)} (h : pg_I T n s fr a g V r) (hs : pg_s T n a = b) (hV : V' = upd V (Int32.toNatClampNeg i) v) (hg : g' = g ||| m) (hm : m = (1 : Int32) <<< (k &&& 31)) (hl : lo = pg_lo s k.toInt) (hh : hi = pg_hi s k.toInt) (ht : pg_tn T n x = ((true, e), v.toInt)) (hr : lo ≤ v.toInt ∧ v.toInt ≤ hi) (hi2 : i.toInt = fr + k.toInt) (hx : x = b + 1) (ha : b ≤ 240) (hb : a ≤ b) (hn : ¬ pg_ch T n b = 32) (hk : k = pg_it s (pg_ch T n b)) (h1 : ¬ k = -1) (h2 : pg_hb g k = false) (he : b < e) : pg_I T n s fr e g' V' r :=
  pg_I.nextc h hs hV hi2 hg hm (pg_n2.t1 ht hr.1 hr.2) hl hh hx ha hb hn hk h1 h2 he
theorem pg_I.fl1 {s : Bool} {fr a b x p : Int} {g k : Int32} {V : Nat → Int32} {r : (Bool × Int) × (Nat → Int32)} (h : pg_I T n s fr a g V r) (hs : pg_s T n a = b) (hk : k = pg_it s (pg_ch T n b)) (h1 : ¬ k = -1) (h2 : pg_hb g k = false) (hq : (pg_tn T n x).1 = (false, p)) (hx : x = b + 1) (ha : b ≤ 240) (hb : a ≤ b) (hn : ¬ pg_ch T n b = 32) : r.1 = (false, p) ∨ ∃ W, r = ((true, p), W) ∧ ¬ (pg_ch T n p = -1 ∨ pg_ch T n p = 59) ∧ ¬ pg_ch T n p = 32 :=
  Or.inl (pg_I.fail1 h hs (pg_n2.tf hq) rfl rfl hx ha hb hn hk h1 h2)
theorem pg_I.fl2 {s : Bool} {fr a b x lo hi e p v : Int} {g k : Int32} {V : Nat → Int32} {r : (Bool × Int) × (Nat → Int32)} (h : pg_I T n s fr a g V r) (hs : pg_s T n a = b) (hk : k = pg_it s (pg_ch T n b)) (h1 : ¬ k = -1) (h2 : pg_hb g k = false) (hl : lo = pg_lo s k.toInt) (hh : hi = pg_hi s k.toInt) (hq : pg_tn T n x = ((true, e), v)) (hr : ¬ (lo ≤ v ∧ v ≤ hi)) (hp : p = e - 1) (hx : x = b + 1) (ha : b ≤ 240) (hb : a ≤ b) (hn : ¬ pg_ch T n b = 32) : r.1 = (false, p) ∨ ∃ W, r = ((true, p), W) ∧ ¬ (pg_ch T n p = -1 ∨ pg_ch T n p = 59) ∧ ¬ pg_ch T n p = 32 :=
  Or.inl (pg_I.fail1 h hs (pg_n2.t0 hq hr hp) hl hh hx ha hb hn hk h1 h2)
/-! the class's road through an office: its rows begin with the usual numbers -/
def pg_og (T : Nat → Int32) (n : Int) : Nat → Int → Int → Int → (Nat → Int32) → (Nat → Int32) → pg_OR
  | 0, a, _, nb, R, B => (a, nb, R, B)
  | f + 1, a, ir, nb, R, B =>
    if pg_ch T n (pg_s T n a) = 115 ∧ ir = 0 then pg_oc (pg_items T n true 0 300 (pg_s T n a + 1) 0 R) (fun e R' => pg_od T n e nb R' B (fun x => pg_og T n f x 1 nb R' B)) (fun p => (p, nb, R, B))
    else if pg_ch T n (pg_s T n a) = 98 ∧ nb < 8 then pg_oc (pg_items T n false (5 * nb) 300 (pg_s T n a + 1) 0 B) (fun e B' => pg_od T n e (nb + 1) R B' (fun x => pg_og T n f x ir (nb + 1) R B')) (fun p => (p, nb, R, B))
    else (pg_s T n a, nb, R, B)
def pg_Oc (T : Nat → Int32) (n a ir nb : Int) (R B : Nat → Int32) (r : pg_OR) : Prop := ∃ f : Nat, 300 ≤ (f : Int) + a ∧ r = pg_og T n f a ir nb R B
theorem pg_Oc.of {a ir nb : Int} {R B : Nat → Int32} (h0 : 0 ≤ a) : pg_Oc T n a ir nb R B (pg_og T n 300 a ir nb R B) := ⟨300, by omega, rfl⟩
theorem pg_Oc.ini {a ir nb : Int} {R R0 B : Nat → Int32} (hR : R = R0) (h0 : 0 ≤ a) : pg_Oc T n a ir nb R B (pg_og T n 300 a ir nb R0 B) := by subst hR; exact pg_Oc.of h0
theorem pg_Oc.s {a b x ir nb : Int} {R B : Nat → Int32} {r : pg_OR} (h : pg_Oc T n a ir nb R B r) (ha : a ≤ 240) (hs : pg_s T n a = b) (hc : pg_ch T n b = 115) (hi : ir = 0) (hx : x = b + 1) : ∃ f : Nat, 300 ≤ (f : Int) + 1 + a ∧ r = pg_oc (pg_items T n true 0 300 x 0 R) (fun e R' => pg_od T n e nb R' B (fun y => pg_og T n f y 1 nb R' B)) (fun p => (p, nb, R, B)) := by
  obtain ⟨f, h1, h2⟩ := h
  cases f with
  | zero => exfalso; omega
  | succ f =>
    refine ⟨f, by omega, ?_⟩
    rw [h2]
    conv => lhs; unfold pg_og
    rw [hs, if_pos ⟨hc, hi⟩, ← hx]
theorem pg_Oc.b {a b x fr ir nb : Int} {R B : Nat → Int32} {r : pg_OR} (h : pg_Oc T n a ir nb R B r) (ha : a ≤ 240) (hs : pg_s T n a = b) (hc : pg_ch T n b = 98) (hi : nb < 8) (hx : x = b + 1) (hf : fr = 5 * nb) : ∃ f : Nat, 300 ≤ (f : Int) + 1 + a ∧ r = pg_oc (pg_items T n false fr 300 x 0 B) (fun e B' => pg_od T n e (nb + 1) R B' (fun y => pg_og T n f y ir (nb + 1) R B')) (fun p => (p, nb, R, B)) := by
  obtain ⟨f, h1, h2⟩ := h
  cases f with
  | zero => exfalso; omega
  | succ f =>
    refine ⟨f, by omega, ?_⟩
    rw [h2]
    conv => lhs; unfold pg_og
    rw [hs, hc, if_neg (fun h => absurd h.1 (by decide)), if_pos ⟨rfl, hi⟩, ← hx, ← hf]
theorem pg_Oc.s1 {a b x e g y ir nb : Int} {R R' B : Nat → Int32} {r : pg_OR} (h : pg_Oc T n a ir nb R B r) (hI : pg_items T n true 0 300 x 0 R = ((true, e), R')) (hd : pg_s T n e = g) (h59 : pg_ch T n g = 59) (hs : pg_s T n a = b) (hc : pg_ch T n b = 115) (hi : ir = 0) (hx : x = b + 1) (ha : a ≤ 240) (hy : y = g + 1) (hl : a < y) : pg_Oc T n y 1 nb R' B r := by
  obtain ⟨f, h1, h2⟩ := h.s ha hs hc hi hx
  exact ⟨f, by omega, h2.trans ((pg_oc.ok hI).trans (pg_od.go hd h59 hy))⟩
theorem pg_Oc.s0 {a b x e g ir nb : Int} {R R' B : Nat → Int32} {r : pg_OR} (h : pg_Oc T n a ir nb R B r) (hI : pg_items T n true 0 300 x 0 R = ((true, e), R')) (hd : pg_s T n e = g) (h59 : ¬ pg_ch T n g = 59) (hs : pg_s T n a = b) (hc : pg_ch T n b = 115) (hi : ir = 0) (hx : x = b + 1) (ha : a ≤ 240) : r = pg_oe T n g nb R' B := by
  obtain ⟨f, h1, h2⟩ := h.s ha hs hc hi hx
  exact h2.trans ((pg_oc.ok hI).trans (pg_od.out hd h59))
theorem pg_Oc.sf {a b x p ir nb : Int} {R B : Nat → Int32} {r : pg_OR} (h : pg_Oc T n a ir nb R B r) (hI : (pg_items T n true 0 300 x 0 R).1 = (false, p)) (hs : pg_s T n a = b) (hc : pg_ch T n b = 115) (hi : ir = 0) (hx : x = b + 1) (ha : a ≤ 240) : r.1 = p := by
  obtain ⟨f, h1, h2⟩ := h.s ha hs hc hi hx
  rw [h2, pg_oc.no hI]
theorem pg_Oc.b1 {a b x e g y fr ir nb nc : Int} {R B B' : Nat → Int32} {r : pg_OR} (h : pg_Oc T n a ir nb R B r) (hI : pg_items T n false fr 300 x 0 B = ((true, e), B')) (hd : pg_s T n e = g) (h59 : pg_ch T n g = 59) (hs : pg_s T n a = b) (hc : pg_ch T n b = 98) (hi : nb < 8) (hx : x = b + 1) (hf : fr = 5 * nb) (hn : nc = nb + 1) (ha : a ≤ 240) (hy : y = g + 1) (hl : a < y) : pg_Oc T n y ir nc R B' r := by
  obtain ⟨f, h1, h2⟩ := h.b ha hs hc hi hx hf
  subst hn
  exact ⟨f, by omega, h2.trans ((pg_oc.ok hI).trans (pg_od.go hd h59 hy))⟩
theorem pg_Oc.b0 {a b x e g fr ir nb nc : Int} {R B B' : Nat → Int32} {r : pg_OR} (h : pg_Oc T n a ir nb R B r) (hI : pg_items T n false fr 300 x 0 B = ((true, e), B')) (hd : pg_s T n e = g) (h59 : ¬ pg_ch T n g = 59) (hs : pg_s T n a = b) (hc : pg_ch T n b = 98) (hi : nb < 8) (hx : x = b + 1) (hf : fr = 5 * nb) (hn : nc = nb + 1) (ha : a ≤ 240) : r = pg_oe T n g nc R B' := by
  obtain ⟨f, h1, h2⟩ := h.b ha hs hc hi hx hf
  subst hn
  exact h2.trans ((pg_oc.ok hI).trans (pg_od.out hd h59))
theorem pg_Oc.bf {a b x p fr ir nb : Int} {R B : Nat → Int32} {r : pg_OR} (h : pg_Oc T n a ir nb R B r) (hI : (pg_items T n false fr 300 x 0 B).1 = (false, p)) (hs : pg_s T n a = b) (hc : pg_ch T n b = 98) (hi : nb < 8) (hx : x = b + 1) (hf : fr = 5 * nb) (ha : a ≤ 240) : r.1 = p := by
  obtain ⟨f, h1, h2⟩ := h.b ha hs hc hi hx hf
  rw [h2, pg_oc.no hI]
theorem pg_Oc.w {a b p ir nb : Int} {R B : Nat → Int32} {r : pg_OR} (h : pg_Oc T n a ir nb R B r) (hs : pg_s T n a = b) (h1 : ¬ (pg_ch T n b = 115 ∧ ir = 0)) (h2 : ¬ (pg_ch T n b = 98 ∧ nb < 8)) (ha : a ≤ 240) (hp : p = b) : r.1 = p := by
  obtain ⟨f, h3, h4⟩ := h
  cases f with
  | zero => exfalso; omega
  | succ f => rw [h4]; unfold pg_og; rw [hs, if_neg h1, if_neg h2, hp]
theorem pg_Oc.sN {a b x e ir ir2 nb : Int} {R R' B : Nat → Int32} (hI : pg_items T n true 0 300 x 0 R = ((true, e), R')) (he : pg_ch T n e = -1 ∨ pg_ch T n e = 59) (hs : pg_s T n a = b) (hc : pg_ch T n b = 115) (hi : ir = 0) (hx : x = b + 1) (ha : a ≤ 240) (hl : a ≤ e) (h2 : ir2 = 1) : ∀ r : pg_OR, pg_Oc T n a ir nb R B r → (pg_ch T n e = 59 → pg_Oc T n (e + 1) ir2 nb R' B r) ∧ (pg_ch T n e = -1 → r = pg_oe T n e nb R' B) := by
  intro r h
  have hn : ¬ pg_ch T n e = 32 := by omega
  subst h2
  exact ⟨fun h59 => h.s1 hI (pg_s.here hn) h59 hs hc hi hx ha rfl (by omega), fun h1 => h.s0 hI (pg_s.here hn) (by omega) hs hc hi hx ha⟩
theorem pg_Oc.bN {a b x e fr ir nb nc : Int} {R B B' : Nat → Int32} (hI : pg_items T n false fr 300 x 0 B = ((true, e), B')) (he : pg_ch T n e = -1 ∨ pg_ch T n e = 59) (hs : pg_s T n a = b) (hc : pg_ch T n b = 98) (hi : nb < 8) (hx : x = b + 1) (hf : fr = 5 * nb) (hn : nc = nb + 1) (ha : a ≤ 240) (hl : a ≤ e) : ∀ r : pg_OR, pg_Oc T n a ir nb R B r → (pg_ch T n e = 59 → pg_Oc T n (e + 1) ir nc R B' r) ∧ (pg_ch T n e = -1 → r = pg_oe T n e nc R B') := by
  intro r h
  have hn2 : ¬ pg_ch T n e = 32 := by omega
  exact ⟨fun h59 => h.b1 hI (pg_s.here hn2) h59 hs hc hi hx hf hn ha rfl (by omega), fun h1 => h.b0 hI (pg_s.here hn2) (by omega) hs hc hi hx hf hn ha⟩
theorem pg_oe.not {g nb : Int} {R B : Nat → Int32} (hc : ¬ pg_ch T n g = -1) : (pg_oe T n g nb R B).1 = g := by unfold pg_oe; rw [if_neg hc]
theorem pg_Oc.sF {a b x p ir nb : Int} {R B : Nat → Int32} (hI : (pg_items T n true 0 300 x 0 R).1 = (false, p) ∨ ∃ W, pg_items T n true 0 300 x 0 R = ((true, p), W) ∧ ¬ (pg_ch T n p = -1 ∨ pg_ch T n p = 59) ∧ ¬ pg_ch T n p = 32) (hs : pg_s T n a = b) (hc : pg_ch T n b = 115) (hi : ir = 0) (hx : x = b + 1) (ha : a ≤ 240) : ∀ r : pg_OR, pg_Oc T n a ir nb R B r → r.1 = p := by
  intro r h
  rcases hI with e | ⟨W, e, hn⟩
  · exact h.sf e hs hc hi hx ha
  · rw [h.s0 e (pg_s.here hn.2) (by omega) hs hc hi hx ha]; exact pg_oe.not (by omega)
theorem pg_Oc.bF {a b x p fr ir nb : Int} {R B : Nat → Int32} (hI : (pg_items T n false fr 300 x 0 B).1 = (false, p) ∨ ∃ W, pg_items T n false fr 300 x 0 B = ((true, p), W) ∧ ¬ (pg_ch T n p = -1 ∨ pg_ch T n p = 59) ∧ ¬ pg_ch T n p = 32) (hs : pg_s T n a = b) (hc : pg_ch T n b = 98) (hi : nb < 8) (hx : x = b + 1) (hf : fr = 5 * nb) (ha : a ≤ 240) : ∀ r : pg_OR, pg_Oc T n a ir nb R B r → r.1 = p := by
  intro r h
  rcases hI with e | ⟨W, e, hn⟩
  · exact h.bf e hs hc hi hx hf ha
  · rw [h.b0 e (pg_s.here hn.2) (by omega) hs hc hi hx hf rfl ha]; exact pg_oe.not (by omega)
theorem pg_Oc.wF {a b p ir nb : Int} {R B : Nat → Int32} (hs : pg_s T n a = b) (h1 : ¬ (pg_ch T n b = 115 ∧ ir = 0)) (h2 : ¬ (pg_ch T n b = 98 ∧ nb < 8)) (ha : a ≤ 240) (hp : p = b) : ∀ r : pg_OR, pg_Oc T n a ir nb R B r → r.1 = p := fun r h => h.w hs h1 h2 ha hp

/-! whatever stands in the rows ahead, an office is read alike -/
theorem pg_items.sim {s : Bool} {fr : Int} : ∀ (f : Nat) (a : Int) (g : Int32) (V W : Nat → Int32), (pg_items T n s fr f a g V).1 = (pg_items T n s fr f a g W).1 ∧ ∀ j, V j = W j → (pg_items T n s fr f a g V).2 j = (pg_items T n s fr f a g W).2 j
  | 0, a, g, V, W => ⟨rfl, fun j h => h⟩
  | f + 1, a, g, V, W => by
    unfold pg_items
    by_cases c : pg_it s (pg_ch T n (pg_s T n a)) = -1 ∨ pg_hb g (pg_it s (pg_ch T n (pg_s T n a))) = true
    · rw [if_pos c, if_pos c]; exact ⟨rfl, fun j h => h⟩
    · rw [if_neg c, if_neg c]
      generalize pg_n2 T n _ _ _ = q
      obtain ⟨⟨b, x⟩, v⟩ := q
      cases b with
      | false => exact ⟨rfl, fun j h => h⟩
      | true =>
        have ih := pg_items.sim (s := s) (fr := fr) f x (g ||| ((1 : Int32) <<< (pg_it s (pg_ch T n (pg_s T n a)) &&& 31))) (upd V (fr + (pg_it s (pg_ch T n (pg_s T n a))).toInt).toNat (Int32.ofInt v)) (upd W (fr + (pg_it s (pg_ch T n (pg_s T n a))).toInt).toNat (Int32.ofInt v))
        refine ⟨ih.1, fun j h => ih.2 j ?_⟩
        unfold upd
        split
        · rfl
        · exact h
theorem pg_wn.sim {R B R' B' : Nat → Int32} (h1 : R 1 = R' 1) : ∀ m : Nat, (∀ b : Nat, b < m → B (5 * b + 3) = B' (5 * b + 3)) → pg_wn R B m = pg_wn R' B' m
  | 0, _ => rfl
  | m + 1, h => by
    show (pg_wn R B m && decide ((B (5 * m + 3)).toInt < (R 1).toInt)) = (pg_wn R' B' m && decide ((B' (5 * m + 3)).toInt < (R' 1).toInt))
    rw [pg_wn.sim h1 m (fun b hb => h b (by omega)), h m (by omega), h1]
theorem pg_oe.sim {g nb : Int} {R B R' B' : Nat → Int32} (h1 : R 1 = R' 1) (h : ∀ b : Nat, (b : Int) < nb → B (5 * b + 3) = B' (5 * b + 3)) : (pg_oe T n g nb R B).1 = (pg_oe T n g nb R' B').1 ∧ (pg_oe T n g nb R B).2.1 = (pg_oe T n g nb R' B').2.1 := by
  unfold pg_oe
  have e : pg_wh nb R B = pg_wh nb R' B' := pg_wn.sim h1 nb.toNat (fun b hb => h b (by omega))
  rw [e]
  by_cases c : pg_ch T n g = -1
  · rw [if_pos c, if_pos c]
    by_cases d : pg_wh nb R' B' = true
    · rw [if_pos d, if_pos d]; exact ⟨rfl, rfl⟩
    · rw [if_neg d, if_neg d]; exact ⟨rfl, rfl⟩
  · rw [if_neg c, if_neg c]; exact ⟨rfl, rfl⟩
theorem pg_us.lo {B : Nat → Int32} {m : Int} {j : Nat} (h0 : 0 ≤ m) (h : (j : Int) < m) : pg_us B m j = B j := by
  unfold pg_us
  rw [pk_un (by omega), pk_un (by omega), pk_un (by omega), pk_un (by omega), pk_un (by omega)]
theorem pg_us.at3 {B : Nat → Int32} {m : Int} {j : Nat} (h0 : 0 ≤ m) (h : (j : Int) = m + 3) : pg_us B m j = 0 := by
  unfold pg_us
  rw [pk_un (by omega), show j = (m + 3).toNat by omega, pk_us]
theorem pg_it.lt (c : Int) : (pg_it false c).toInt ≤ 4 := by
  unfold pg_it
  rw [if_neg (by decide)]
  (repeat' split) <;> decide
theorem pg_items.hi {fr : Int} {j : Nat} : ∀ (f : Nat) {a : Int} {g : Int32} {V : Nat → Int32}, 0 ≤ fr → fr + 5 ≤ (j : Int) → (pg_items T n false fr f a g V).2 j = V j
  | 0, a, g, V, _, _ => rfl
  | f + 1, a, g, V, h0, hj => by
    unfold pg_items
    by_cases c : pg_it false (pg_ch T n (pg_s T n a)) = -1 ∨ pg_hb g (pg_it false (pg_ch T n (pg_s T n a))) = true
    · rw [if_pos c]
    · rw [if_neg c]
      generalize pg_n2 T n _ _ _ = q
      obtain ⟨⟨b, x⟩, v⟩ := q
      cases b with
      | false => rfl
      | true =>
        show (pg_items T n false fr f x _ (upd V (fr + (pg_it false (pg_ch T n (pg_s T n a))).toInt).toNat (Int32.ofInt v))).2 j = V j
        rw [pg_items.hi f h0 hj]
        have h1 := pg_it.lt (pg_ch T n (pg_s T n a))
        exact pk_un (by omega)
theorem pg_og.sim : ∀ (f : Nat) (a ir nb : Int) (R B R' B' : Nat → Int32), 0 ≤ nb → R 1 = R' 1 → (ir = 0 → R 1 = 3) → (∀ b : Nat, (b : Int) < nb → B (5 * b + 3) = B' (5 * b + 3)) → (∀ b : Nat, nb ≤ (b : Int) → b < 8 → B (5 * b + 3) = 0) → (pg_og T n f a ir nb R B).1 = (pg_of T n f a ir nb R' B').1 ∧ (pg_og T n f a ir nb R B).2.1 = (pg_of T n f a ir nb R' B').2.1
  | 0, a, ir, nb, R, B, R', B', h0, h1, h2, h3, h4 => ⟨rfl, rfl⟩
  | f + 1, a, ir, nb, R, B, R', B', h0, h1, h2, h3, h4 => by
    unfold pg_og pg_of
    by_cases c1 : pg_ch T n (pg_s T n a) = 115 ∧ ir = 0
    · rw [if_pos c1, if_pos c1]
      have hs := pg_items.sim (T := T) (n := n) (s := true) (fr := 0) 300 (pg_s T n a + 1) 0 R (pg_ur R')
      have h5 := hs.2 1 (by rw [h2 c1.2]; rfl)
      have h6 := hs.1
      generalize pg_items T n true 0 300 (pg_s T n a + 1) 0 R = p at h5 h6 ⊢
      generalize pg_items T n true 0 300 (pg_s T n a + 1) 0 (pg_ur R') = q at h5 h6 ⊢
      obtain ⟨⟨b1, e1⟩, V1⟩ := p
      obtain ⟨q1, V2⟩ := q
      have h6 : (b1, e1) = q1 := h6
      subst h6
      cases b1 with
      | false => exact ⟨rfl, rfl⟩
      | true =>
        rw [pg_oc.ok rfl, pg_oc.ok rfl]
        unfold pg_od
        by_cases d : pg_ch T n (pg_s T n e1) = 59
        · rw [if_pos d, if_pos d]
          exact pg_og.sim f _ 1 nb V1 B V2 B' h0 h5 (fun h => absurd h (by decide)) h3 h4
        · rw [if_neg d, if_neg d]
          exact pg_oe.sim h5 h3
    · rw [if_neg c1, if_neg c1]
      by_cases c2 : pg_ch T n (pg_s T n a) = 98 ∧ nb < 8
      · rw [if_pos c2, if_pos c2]
        have hs := pg_items.sim (T := T) (n := n) (s := false) (fr := 5 * nb) 300 (pg_s T n a + 1) 0 B (pg_us B' (5 * nb))
        have h5 : ∀ b : Nat, (b : Int) < nb + 1 → (pg_items T n false (5 * nb) 300 (pg_s T n a + 1) 0 B).2 (5 * b + 3) = (pg_items T n false (5 * nb) 300 (pg_s T n a + 1) 0 (pg_us B' (5 * nb))).2 (5 * b + 3) := by
          intro b hb
          apply hs.2
          rcases (show (b : Int) < nb ∨ (b : Int) = nb by omega) with e | e
          · rw [pg_us.lo (by omega) (by omega)]; exact h3 b e
          · rw [pg_us.at3 (by omega) (by omega)]; exact h4 b (by omega) (by omega)
        have h7 : ∀ b : Nat, nb + 1 ≤ (b : Int) → b < 8 → (pg_items T n false (5 * nb) 300 (pg_s T n a + 1) 0 B).2 (5 * b + 3) = 0 := by
          intro b hb hb8
          rw [pg_items.hi 300 (by omega) (by omega)]; exact h4 b (by omega) hb8
        have h6 := hs.1
        generalize pg_items T n false (5 * nb) 300 (pg_s T n a + 1) 0 B = p at h5 h6 h7 ⊢
        generalize pg_items T n false (5 * nb) 300 (pg_s T n a + 1) 0 (pg_us B' (5 * nb)) = q at h5 h6 ⊢
        obtain ⟨⟨b1, e1⟩, V1⟩ := p
        obtain ⟨q1, V2⟩ := q
        have h6 : (b1, e1) = q1 := h6
        subst h6
        cases b1 with
        | false => exact ⟨rfl, rfl⟩
        | true =>
          rw [pg_oc.ok rfl, pg_oc.ok rfl]
          unfold pg_od
          by_cases d : pg_ch T n (pg_s T n e1) = 59
          · rw [if_pos d, if_pos d]
            exact pg_og.sim f _ ir (nb + 1) R V1 R' V2 (by omega) h1 h2 h5 h7
          · rw [if_neg d, if_neg d]
            exact pg_oe.sim h1 h5
      · rw [if_neg c2, if_neg c2]; exact ⟨rfl, rfl⟩
def pg_zr : Nat → Int32 := fun _ => 0
def pg_office (T : Nat → Int32) (n : Int) : Int × Int := ((pg_of T n 300 0 0 0 (pg_ur pg_zr) pg_zr).1, (pg_of T n 300 0 0 0 (pg_ur pg_zr) pg_zr).2.1)
theorem pg_office.og {R B : Nat → Int32} (h1 : R 1 = 3) (h2 : ∀ b : Nat, b < 8 → B (5 * b + 3) = 0) : ((pg_og T n 300 0 0 0 R B).1, (pg_og T n 300 0 0 0 R B).2.1) = pg_office T n := by
  have h := pg_og.sim (T := T) (n := n) 300 0 0 0 R B (pg_ur pg_zr) pg_zr (Int.le_refl _) h1 (fun _ => h1) (fun b hb => absurd hb (by omega)) (fun b _ hb => h2 b hb)
  unfold pg_office
  rw [h.1, h.2]
theorem pg_office.of (R B : Nat → Int32) : ((pg_of T n 300 0 0 0 (pg_ur R) B).1, (pg_of T n 300 0 0 0 (pg_ur R) B).2.1) = pg_office T n := by
  have h := pg_og.sim (T := T) (n := n) 300 0 0 0 (pg_ur pg_zr) pg_zr (pg_ur R) B (Int.le_refl _) rfl (fun _ => rfl) (fun b hb => absurd hb (by omega)) (fun b _ hb => rfl)
  rw [← h.1, ← h.2]
  exact pg_office.og rfl (fun b _ => rfl)
theorem pg_office.g {nb : Int} {R B R' B' : Nat → Int32} (h : pg_of T n 300 ((0 : Int32)).toInt 0 ((0 : Int32)).toInt (pg_ur R) B = (-1, nb, R', B')) : pg_office T n = (-1, nb) := by
  have h : pg_of T n 300 0 0 0 (pg_ur R) B = (-1, nb, R', B') := h
  rw [← pg_office.of R B, h]
theorem pg_office.b {p : Int} {R B : Nat → Int32} (h : (pg_of T n 300 ((0 : Int32)).toInt 0 ((0 : Int32)).toInt (pg_ur R) B).1 = p) : (pg_office T n).1 = p := by
  have h : (pg_of T n 300 0 0 0 (pg_ur R) B).1 = p := h
  rw [← pg_office.of R B]; exact h
theorem pg_office.g2 {g nb : Int} {R B R' B' : Nat → Int32} (h : pg_of T n 300 ((0 : Int32)).toInt 0 ((0 : Int32)).toInt (pg_ur R) B = pg_oe T n g nb R' B') (hc : pg_ch T n g = -1) (hw : pg_wh nb R' B' = true) : pg_office T n = (-1, nb) := pg_office.g (pg_oe.good h hc hw)
theorem pg_office.b0 {p q : Int} {R B : Nat → Int32} (h : (pg_of T n 300 ((0 : Int32)).toInt 0 ((0 : Int32)).toInt (pg_ur R) B).1 = q) (hp : p = q) : (pg_office T n).1 = p := by rw [hp]; exact pg_office.b h
theorem pg_office.b1 {p g nb : Int} {R B R' B' : Nat → Int32} (h : pg_of T n 300 ((0 : Int32)).toInt 0 ((0 : Int32)).toInt (pg_ur R) B = pg_oe T n g nb R' B') (hc : ¬ pg_ch T n g = -1) (hp : p = g) : (pg_office T n).1 = p := pg_office.b (pg_oe.bad1 h hc hp)
theorem pg_office.b2 {p g nb : Int} {R B R' B' : Nat → Int32} (h : pg_of T n 300 ((0 : Int32)).toInt 0 ((0 : Int32)).toInt (pg_ur R) B = pg_oe T n g nb R' B') (hw : pg_wh nb R' B' = false) (hc : pg_ch T n g = -1) (hp : p = n) : (pg_office T n).1 = p := pg_office.b (pg_oe.bad2 h hw hc hp)
theorem pg_items.e0 {s : Bool} {fr a b : Int} {g : Int32} {V V0 : Nat → Int32} (hV : V = V0) (hs : pg_s T n a = b) (hc : pg_ch T n b = -1) (hb : a ≤ b) (h0 : 0 ≤ a) : pg_items T n s fr 300 a g V0 = ((true, b), V) := by
  subst hV
  have hn : ¬ pg_ch T n b = 32 := by omega
  exact ((pg_I.of h0).norm hs hn hb).out hn rfl (Or.inl (by rw [hc]; exact pg_itn s))
theorem pg_I.last {s : Bool} {fr a x lo hi e b : Int} {g k i v : Int32} {V V' : Nat → Int32} {r : (Bool × Int) × (Nat → Int32)} (h : pg_I T n s fr a g V r) (hV : V' = upd V (Int32.toNatClampNeg i) v) (hi2 : i.toInt = fr + k.toInt) (hq : pg_n2 T n lo hi x = ((true, e), v.toInt)) (hl : lo = pg_lo s k.toInt) (hh : hi = pg_hi s k.toInt) (hx : x = a + 1) (ha : a ≤ 240) (hn : ¬ pg_ch T n a = 32) (hk : k = pg_it s (pg_ch T n a)) (h1 : ¬ k = -1) (h2 : pg_hb g k = false) (he : a < e) (hs : pg_s T n e = b) (hc : pg_ch T n b = -1) (hb : e ≤ b) : r = ((true, b), V') := by
  have hn2 : ¬ pg_ch T n b = 32 := by omega
  exact (pg_I.next (g' := g ||| ((1 : Int32) <<< (k &&& 31))) h hV hi2 rfl rfl hq hl hh hx ha hn hk h1 h2 he hs hn2 hb).out hn2 rfl (Or.inl (by rw [hc]; exact pg_itn s))
theorem pg_items.pn {s : Bool} {fr a e b p : Int} {g : Int32} {V V' : Nat → Int32} (h : pg_items T n s fr 300 a g V = ((true, e), V')) (hs : pg_s T n e = b) (ha : a ≤ n) (hb : n ≤ b) (hp : p = b) : p = n := by
  have := pg_items.s h hs ha
  omega
theorem pg_office.cg {a nb : Int} {R B R0 B0 : Nat → Int32} {r : Int} (hR : R0 1 = 3) (hB : ∀ b : Nat, b < 8 → B0 (5 * b + 3) = 0) (h : pg_og T n 300 0 0 0 R0 B0 = pg_oe T n a nb R B) (hc : pg_ch T n a = -1) (hw : pg_wh nb R B = true) : pg_office T n = (-1, nb) := by
  rw [← pg_office.og hR hB, h]; unfold pg_oe; rw [if_pos hc, if_pos hw]
theorem pg_office.cb {a nb p : Int} {R B R0 B0 : Nat → Int32} (hR : R0 1 = 3) (hB : ∀ b : Nat, b < 8 → B0 (5 * b + 3) = 0) (h : pg_og T n 300 0 0 0 R0 B0 = pg_oe T n a nb R B) (hc : pg_ch T n a = -1) (hw : pg_wh nb R B = false) (hp : p = n) : (pg_office T n).1 = p := by
  rw [← pg_office.og hR hB, h, hp]; unfold pg_oe; rw [if_pos hc, if_neg (by rw [hw]; decide)]
theorem pg_office.cw {p : Int} {R0 B0 : Nat → Int32} (hR : R0 1 = 3) (hB : ∀ b : Nat, b < 8 → B0 (5 * b + 3) = 0) (h : (pg_og T n 300 0 0 0 R0 B0).1 = p) : (pg_office T n).1 = p := by
  rw [← pg_office.og hR hB]; exact h
/-! what a fault and a text answer -/
def pg_flt (T : Nat → Int32) (n q : Int) : Int := if q = 0 then (pg_office T n).1 else if q = 1 then pg_law T n else -2
theorem pg_flt.o {q r : Int} (hq : q = 0) (h : (pg_office T n).1 = r) : r = pg_flt T n q := by unfold pg_flt; rw [if_pos hq, h]
theorem pg_flt.g {q r nb : Int} (hq : q = 0) (h : pg_office T n = (-1, nb)) (hr : r = -1) : r = pg_flt T n q := by unfold pg_flt; rw [if_pos hq, h, hr]
theorem pg_flt.l {q r : Int} (hq : q = 1) (h : r = pg_law T n) : r = pg_flt T n q := by unfold pg_flt; rw [if_neg (by omega), if_pos hq, h]
theorem pg_flt.z {q r : Int} (h0 : ¬ q = 0) (h1 : ¬ q = 1) (hr : r = -2) : r = pg_flt T n q := by unfold pg_flt; rw [if_neg h0, if_neg h1, hr]
def pg_txt (T : Nat → Int32) (n l q : Int) : Int × Int × Int := if q = 0 ∧ (pg_office T n).1 = -1 then ((pg_office T n).2, 0, l) else if q = 1 ∧ l < 4 ∧ pg_law T n = -1 then (l, 0, l + 1) else (-1, n, l)
theorem pg_txt.o {q r m l k nb : Int} (hq : q = 0) (h : pg_office T n = (-1, nb)) (hr : r = nb) (hm : m = 0) (hk : k = l) : (r, m, k) = pg_txt T n l q := by
  unfold pg_txt; rw [h, if_pos ⟨hq, rfl⟩, hr, hm, hk]
theorem pg_txt.l {q r m l k : Int} (hq : q = 1) (h4 : l < 4) (h : -1 = pg_law T n) (hr : r = l) (hm : m = 0) (hk : k = l + 1) : (r, m, k) = pg_txt T n l q := by
  unfold pg_txt; rw [if_neg (by omega), if_pos ⟨hq, h4, h.symm⟩, hr, hm, hk]
theorem pg_txt.no {q r m l k : Int} (h1 : ¬ (q = 0 ∧ (pg_office T n).1 = -1)) (h2 : ¬ (q = 1 ∧ l < 4 ∧ pg_law T n = -1)) (hr : r = -1) (hm : m = n) (hk : k = l) : (r, m, k) = pg_txt T n l q := by
  unfold pg_txt; rw [if_neg h1, if_neg h2, hr, hm, hk]
theorem pg_txt.n0 {q r m l k p : Int} (hq : q = 0) (h : (pg_office T n).1 = p) (hp : ¬ p = -1) (hr : r = -1) (hm : m = n) (hk : k = l) : (r, m, k) = pg_txt T n l q := pg_txt.no (by rw [h]; omega) (by omega) hr hm hk
theorem pg_txt.n1 {q r m l k p : Int} (hq : q = 1) (h : p = pg_law T n) (hp : ¬ p = -1) (hr : r = -1) (hm : m = n) (hk : k = l) : (r, m, k) = pg_txt T n l q := pg_txt.no (by omega) (by rw [← h]; omega) hr hm hk
theorem pg_txt.n2 {q r m l k : Int} (h4 : ¬ l < 4) (h0 : ¬ q = 0) (hr : r = -1) (hm : m = n) (hk : k = l) : (r, m, k) = pg_txt T n l q := pg_txt.no (by omega) (by omega) hr hm hk
theorem pg_txt.n3 {q r m l k : Int} (h0 : ¬ q = 0) (h1 : ¬ q = 1) (hr : r = -1) (hm : m = n) (hk : k = l) : (r, m, k) = pg_txt T n l q := pg_txt.no (by omega) (by omega) hr hm hk
theorem pg_txt.i1 {q r m l k r' m' k' : Int} (h : (r, m, k) = pg_txt T n l q) (h' : (r', m', k') = pg_txt T n l q) : r = r' ∧ m = m' ∧ k = k' := by
  have e := h.trans h'.symm
  exact ⟨congrArg Prod.fst e, congrArg (fun z => z.2.1) e, congrArg (fun z => z.2.2) e⟩

theorem pg_wn.all {R B : Nat → Int32} : ∀ (m : Nat), pg_wn R B m = true → ∀ b, b < m → (B (5 * b + 3)).toInt < (R 1).toInt
  | 0, _, b, hb => absurd hb (Nat.not_lt_zero b)
  | m + 1, h, b, hb => by
    have h : (pg_wn R B m && decide ((B (5 * m + 3)).toInt < (R 1).toInt)) = true := h
    rw [Bool.and_eq_true] at h
    rcases (show b < m ∨ b = m by omega) with e | e
    · exact pg_wn.all m h.1 b e
    · rw [e]; exact of_decide_eq_true h.2
theorem pg_wh.tr {R B : Nat → Int32} {b c : Int} {t u q w : Int32} (h : pg_wh b R B = true) (et : t = B (Int32.toNatClampNeg q)) (eu : u = R (Int32.toNatClampNeg w)) (hlt : t.toInt < u.toInt) (hq : q.toInt = 5 * b + 3) (hw : w.toInt = 1) (h0 : 0 ≤ b) (hc : c = b + 1) : pg_wh c R B = true := by
  have g1 : B (5 * b + 3).toNat = t := by rw [et, ← hq]; rfl
  have g2 : R 1 = u := by rw [eu]; show R 1 = R w.toInt.toNat; rw [hw]; rfl
  rw [pg_wh.step h0 hc, h, g1, g2, decide_eq_true hlt]; rfl
theorem pg_wh.al {R B : Nat → Int32} {b nb : Int} (h : pg_wh b R B = true) (hb : nb = b) : pg_wh nb R B = true := by rw [hb]; exact h
theorem pg_wh.fa {R B : Nat → Int32} {b nb : Int} {t u q w : Int32} (h : pg_wh b R B = true) (et : t = B (Int32.toNatClampNeg q)) (eu : u = R (Int32.toNatClampNeg w)) (hlt : ¬ t.toInt < u.toInt) (hq : q.toInt = 5 * b + 3) (hw : w.toInt = 1) (h0 : 0 ≤ b) (hb : b < nb) : pg_wh nb R B = false := by
  have g1 : B (5 * b.toNat + 3) = t := by rw [et]; show _ = B q.toInt.toNat; rw [hq]; rw [show (5 * b + 3).toNat = 5 * b.toNat + 3 by omega]
  have g2 : R 1 = u := by rw [eu]; show R 1 = R w.toInt.toNat; rw [hw]; rfl
  cases e : pg_wh nb R B with
  | false => rfl
  | true =>
    have := pg_wn.all nb.toNat e b.toNat (by omega)
    rw [g1, g2] at this
    exact absurd this hlt
theorem pg_b3.step {B B' : Nat → Int32} {i t z w : Int32} {k : Nat} (h : ∀ b : Nat, b < i.toInt.toNat → B (5 * b + 3) = 0) (e : B' = va_cpy pv_tb_BAG_USUAL B (Int32.toNatClampNeg z) (Int32.toNatClampNeg t) (Int32.toNatClampNeg w)) (hz : z.toInt = 0) (ht : t.toInt = 5 * i.toInt) (hw : w.toInt = 5) (hk : k = i.toInt.toNat + 1) (h0 : 0 ≤ i.toInt) : ∀ b : Nat, b < k → B' (5 * b + 3) = 0 := by
  intro b hb
  have g0 : Int32.toNatClampNeg z = 0 := by show z.toInt.toNat = 0; omega
  have g1 : Int32.toNatClampNeg t = 5 * i.toInt.toNat := by show t.toInt.toNat = _; omega
  have g2 : Int32.toNatClampNeg w = 5 := by show w.toInt.toNat = 5; omega
  rw [e, g0, g1, g2]
  unfold va_cpy
  rcases (show b < i.toInt.toNat ∨ b = i.toInt.toNat by omega) with c | c
  · show (if 5 * i.toInt.toNat ≤ 5 * b + 3 ∧ _ then _ else _) = _
    rw [if_neg (by omega)]; exact h b c
  · subst c
    show (if _ ∧ _ then _ else _) = _
    rw [if_pos (by omega), show 0 + (5 * i.toInt.toNat + 3 - 5 * i.toInt.toNat) = 3 by omega]; rfl
theorem pg_Oc.go {a e x ir nb ir' nb' : Int} {R B R' B' : Nat → Int32} {r : pg_OR} (h : pg_Oc T n a ir nb R B r) (hk : ∀ r9 : pg_OR, pg_Oc T n a ir nb R B r9 → (pg_ch T n e = 59 → pg_Oc T n (e + 1) ir' nb' R' B' r9) ∧ (pg_ch T n e = -1 → r9 = pg_oe T n e nb' R' B')) (h59 : pg_ch T n e = 59) (hx : x = e + 1) : pg_Oc T n x ir' nb' R' B' r := by
  rw [hx]; exact (hk r h).1 h59
theorem pg_office.fg {a e ir nb ir' nb' : Int} {R B R' B' R0 B0 : Nat → Int32} (hR : R0 1 = 3) (hB : ∀ b : Nat, b < 8 → B0 (5 * b + 3) = 0) (h : pg_Oc T n a ir nb R B (pg_og T n 300 0 0 0 R0 B0)) (hk : ∀ r9 : pg_OR, pg_Oc T n a ir nb R B r9 → (pg_ch T n e = 59 → pg_Oc T n (e + 1) ir' nb' R' B' r9) ∧ (pg_ch T n e = -1 → r9 = pg_oe T n e nb' R' B')) (hc : pg_ch T n e = -1) (hw : pg_wh nb' R' B' = true) : pg_office T n = (-1, nb') := pg_office.cg (r := 0) hR hB ((hk _ h).2 hc) hc hw
theorem pg_office.fb {a e ir nb ir' nb' p : Int} {R B R' B' R0 B0 : Nat → Int32} (hR : R0 1 = 3) (hB : ∀ b : Nat, b < 8 → B0 (5 * b + 3) = 0) (h : pg_Oc T n a ir nb R B (pg_og T n 300 0 0 0 R0 B0)) (hk : ∀ r9 : pg_OR, pg_Oc T n a ir nb R B r9 → (pg_ch T n e = 59 → pg_Oc T n (e + 1) ir' nb' R' B' r9) ∧ (pg_ch T n e = -1 → r9 = pg_oe T n e nb' R' B')) (hc : pg_ch T n e = -1) (hw : pg_wh nb' R' B' = false) (hp : p = n) : (pg_office T n).1 = p := pg_office.cb hR hB ((hk _ h).2 hc) hc hw hp
theorem pg_office.fw {a ir nb p q : Int} {R B R0 B0 : Nat → Int32} (hR : R0 1 = 3) (hB : ∀ b : Nat, b < 8 → B0 (5 * b + 3) = 0) (h : pg_Oc T n a ir nb R B (pg_og T n 300 0 0 0 R0 B0)) (hk : ∀ r9 : pg_OR, pg_Oc T n a ir nb R B r9 → r9.1 = p) (hq : q = p) : (pg_office T n).1 = q := by
  rw [hq]; exact pg_office.cw hR hB (hk _ h)
end PGX
/-! feed, byte by byte -/
section PGF
def pg_pf (F : Int32 → Int32) (T : Nat → Int32) (n : Int) : Nat → (Nat → Int32) × Int
  | 0 => (T, n)
  | k + 1 => if F (nI k) = 0 then pg_pf F T n k else (upd (pg_pf F T n k).1 (pg_pf F T n k).2.toNat (F (nI k)), (pg_pf F T n k).2 + 1)
/-- behind k bytes the tape is U, its length m -/
def pg_P (F : Int32 → Int32) (T : Nat → Int32) (n : Int) (U : Nat → Int32) (m : Int) (k : Nat) : Prop := (U, m) = pg_pf F T n k
theorem pg_P.zero {F : Int32 → Int32} {T : Nat → Int32} {n : Int} {k : Nat} (h : k = 0) : pg_P F T n T n k := by subst h; rfl
theorem pg_P.uni {F : Int32 → Int32} {T U V : Nat → Int32} {n m p : Int} {k : Nat} (h : pg_P F T n U m k) (h2 : pg_P F T n V p k) : U = V ∧ m = p := by
  have e : (U, m) = (V, p) := Eq.trans h (Eq.symm h2)
  exact ⟨congrArg Prod.fst e, congrArg Prod.snd e⟩
theorem pg_P.s1 {F : Int32 → Int32} {T U : Nat → Int32} {n m : Int} {k : Nat} (h : pg_P F T n U m k) (hc : ¬ F (nI k) = 0) : pg_P F T n (upd U m.toNat (F (nI k))) (m + 1) (k + 1) := by
  show _ = (if F (nI k) = 0 then pg_pf F T n k else (upd (pg_pf F T n k).1 (pg_pf F T n k).2.toNat (F (nI k)), (pg_pf F T n k).2 + 1))
  rw [if_neg hc, ← show (U, m) = pg_pf F T n k from h]
theorem pg_P.s0 {F : Int32 → Int32} {T U : Nat → Int32} {n m : Int} {k : Nat} (h : pg_P F T n U m k) (hc : F (nI k) = 0) : pg_P F T n U m (k + 1) := by
  show _ = (if F (nI k) = 0 then pg_pf F T n k else (upd (pg_pf F T n k).1 (pg_pf F T n k).2.toNat (F (nI k)), (pg_pf F T n k).2 + 1))
  rw [if_pos hc]; exact h
theorem pg_P.one {F : Int32 → Int32} {T U U' : Nat → Int32} {n m' : Int} {k r i : Int32} {k' : Nat} (h : pg_P F T n U i.toInt k.toInt.toNat) (hU : U' = upd U (Int32.toNatClampNeg i) r) (hr : r = F k) (hc : ¬ r.toInt = 0) (hk : k' = k.toInt.toNat + 1) (hm : m' = i.toInt + 1) (h0 : 0 ≤ k.toInt) : pg_P F T n U' m' k' := by
  have e := pg_nIk h0
  have e2 : r = F (nI k.toInt.toNat) := by rw [← e]; exact hr
  rw [hU, hk, hm, e2]
  exact h.s1 (fun h9 => hc (by rw [e2, h9]; decide))
theorem pg_P.no {F : Int32 → Int32} {T U : Nat → Int32} {n m : Int} {k r : Int32} {k' : Nat} (h : pg_P F T n U m k.toInt.toNat) (hr : r = F k) (hc : r.toInt = 0) (hk : k' = k.toInt.toNat + 1) (h0 : 0 ≤ k.toInt) : pg_P F T n U m k' := by
  have e := pg_nIk h0
  have e2 : r = F (nI k.toInt.toNat) := by rw [← e]; exact hr
  rw [hk]
  exact h.s0 (by rw [← e2]; exact Int32.toInt_inj.mp (by rw [hc]; decide))
theorem pg_P.sz {F : Int32 → Int32} {T : Nat → Int32} {n : Int} : ∀ {k : Nat} {U : Nat → Int32} {m : Int}, pg_P F T n U m k → m = n + pm_cn F k
  | 0, U, m, h => by
    have h2 : m = n := congrArg Prod.snd h
    show m = n + 0
    omega
  | k + 1, U, m, h => by
    have ih := pg_P.sz (F := F) (T := T) (n := n) (k := k) (U := (pg_pf F T n k).1) (m := (pg_pf F T n k).2) rfl
    have h2 : (U, m) = (if F (nI k) = 0 then pg_pf F T n k else (upd (pg_pf F T n k).1 (pg_pf F T n k).2.toNat (F (nI k)), (pg_pf F T n k).2 + 1)) := h
    show m = n + (pm_cn F k + (if F (nI k) = 0 then 0 else 1))
    by_cases c : F (nI k) = 0
    · rw [if_pos c] at h2; rw [if_pos c]
      have h3 : m = (pg_pf F T n k).2 := congrArg Prod.snd h2
      omega
    · rw [if_neg c] at h2; rw [if_neg c]
      have h3 : m = (pg_pf F T n k).2 + 1 := congrArg Prod.snd h2
      omega
theorem pg_pf.add {F G : Int32 → Int32} {T : Nat → Int32} {n : Int} {p : Nat} : ∀ d : Nat, (∀ j, j < d → F (nI (p + j)) = G (nI j)) → pg_pf F T n (p + d) = pg_pf G (pg_pf F T n p).1 (pg_pf F T n p).2 d
  | 0, _ => rfl
  | d + 1, h => by
    show (if F (nI (p + d)) = 0 then pg_pf F T n (p + d) else (upd (pg_pf F T n (p + d)).1 (pg_pf F T n (p + d)).2.toNat (F (nI (p + d))), (pg_pf F T n (p + d)).2 + 1)) = (if G (nI d) = 0 then pg_pf G (pg_pf F T n p).1 (pg_pf F T n p).2 d else _)
    rw [h d (by omega), pg_pf.add d (fun j hj => h j (by omega))]
theorem pg_P.app {F G : Int32 → Int32} {T U V : Nat → Int32} {n m q : Int} {p d : Nat} (h : pg_P F T n U m p) (h2 : pg_P G U m V q d) (hj : ∀ j, j < d → F (nI (p + j)) = G (nI j)) : pg_P F T n V q (p + d) := by
  show (V, q) = pg_pf F T n (p + d)
  rw [pg_pf.add d hj, ← show (U, m) = pg_pf F T n p from h]; exact h2
theorem pg_cn.add {F G : Int32 → Int32} {p : Nat} : ∀ d : Nat, (∀ j, j < d → F (nI (p + j)) = G (nI j)) → pm_cn F (p + d) = pm_cn F p + pm_cn G d
  | 0, _ => by show pm_cn F p = pm_cn F p + 0; omega
  | d + 1, h => by
    show pm_cn F (p + d) + (if F (nI (p + d)) = 0 then 0 else 1) = pm_cn F p + (pm_cn G d + (if G (nI d) = 0 then 0 else 1))
    rw [h d (by omega), pg_cn.add d (fun j hj => h j (by omega))]; omega
theorem pg_b1m {w : Int32} : ∀ q, q < 5 → ∀ j, j < 4 → pm_b1 w (nI (4 * q + j)) = pm_b1 w (nI j) := by
  intro q hq j hj
  unfold pm_b1
  rw [(by decide +kernel : ∀ q, q < 5 → ∀ j, j < 4 → (24 - 8 * (nI (4 * q + j) - nI (4 * q + j) / 4 * 4) : Int32) = 24 - 8 * (nI j - nI j / 4 * 4)) q hq j hj]
theorem pg_by.q0 {a b c d e : Int32} : ∀ j, j < 4 → pm_by a b c d e (nI (0 + j)) = pm_b1 a (nI j) := by
  intro j hj
  unfold pm_by
  rw [if_pos (by rw [nI_toInt (by omega)]; omega), Nat.zero_add]
theorem pg_by.q1 {a b c d e : Int32} : ∀ j, j < 4 → pm_by a b c d e (nI (4 + j)) = pm_b1 b (nI j) := by
  intro j hj
  unfold pm_by
  rw [if_neg (by rw [nI_toInt (by omega)]; omega), if_pos (by rw [nI_toInt (by omega)]; omega)]
  exact pg_b1m 1 (by omega) j hj
theorem pg_by.q2 {a b c d e : Int32} : ∀ j, j < 4 → pm_by a b c d e (nI (8 + j)) = pm_b1 c (nI j) := by
  intro j hj
  unfold pm_by
  rw [if_neg (by rw [nI_toInt (by omega)]; omega), if_neg (by rw [nI_toInt (by omega)]; omega), if_pos (by rw [nI_toInt (by omega)]; omega)]
  exact pg_b1m 2 (by omega) j hj
theorem pg_by.q3 {a b c d e : Int32} : ∀ j, j < 4 → pm_by a b c d e (nI (12 + j)) = pm_b1 d (nI j) := by
  intro j hj
  unfold pm_by
  rw [if_neg (by rw [nI_toInt (by omega)]; omega), if_neg (by rw [nI_toInt (by omega)]; omega), if_neg (by rw [nI_toInt (by omega)]; omega), if_pos (by rw [nI_toInt (by omega)]; omega)]
  exact pg_b1m 3 (by omega) j hj
theorem pg_by.q4 {a b c d e : Int32} : ∀ j, j < 4 → pm_by a b c d e (nI (16 + j)) = pm_b1 e (nI j) := by
  intro j hj
  unfold pm_by
  rw [if_neg (by rw [nI_toInt (by omega)]; omega), if_neg (by rw [nI_toInt (by omega)]; omega), if_neg (by rw [nI_toInt (by omega)]; omega), if_neg (by rw [nI_toInt (by omega)]; omega)]
  exact pg_b1m 4 (by omega) j hj
theorem pg_P.five {a b c d e : Int32} {T U1 U2 U3 U4 U5 : Nat → Int32} {n m1 m2 m3 m4 m5 : Int} (h1 : pg_P (pm_b1 a) T n U1 m1 4) (h2 : pg_P (pm_b1 b) U1 m1 U2 m2 4) (h3 : pg_P (pm_b1 c) U2 m2 U3 m3 4) (h4 : pg_P (pm_b1 d) U3 m3 U4 m4 4) (h5 : pg_P (pm_b1 e) U4 m4 U5 m5 4) : pg_P (pm_by a b c d e) T n U5 m5 20 := by
  have k0 : pg_P (pm_by a b c d e) T n T n 0 := pg_P.zero rfl
  exact ((((k0.app h1 pg_by.q0).app h2 pg_by.q1).app h3 pg_by.q2).app h4 pg_by.q3).app h5 pg_by.q4
theorem pg_cn.five {a b c d e : Int32} : pm_cn (pm_by a b c d e) 20 = pm_cn (pm_b1 a) 4 + pm_cn (pm_b1 b) 4 + pm_cn (pm_b1 c) 4 + pm_cn (pm_b1 d) 4 + pm_cn (pm_b1 e) 4 := by
  have z : pm_cn (pm_by a b c d e) 0 = 0 := rfl
  have e1 : pm_cn (pm_by a b c d e) 4 = pm_cn (pm_by a b c d e) 0 + pm_cn (pm_b1 a) 4 := pg_cn.add (p := 0) 4 pg_by.q0
  have e2 : pm_cn (pm_by a b c d e) 8 = pm_cn (pm_by a b c d e) 4 + pm_cn (pm_b1 b) 4 := pg_cn.add (p := 4) 4 pg_by.q1
  have e3 : pm_cn (pm_by a b c d e) 12 = pm_cn (pm_by a b c d e) 8 + pm_cn (pm_b1 c) 4 := pg_cn.add (p := 8) 4 pg_by.q2
  have e4 : pm_cn (pm_by a b c d e) 16 = pm_cn (pm_by a b c d e) 12 + pm_cn (pm_b1 d) 4 := pg_cn.add (p := 12) 4 pg_by.q3
  have e5 : pm_cn (pm_by a b c d e) 20 = pm_cn (pm_by a b c d e) 16 + pm_cn (pm_b1 e) 4 := pg_cn.add (p := 16) 4 pg_by.q4
  omega
theorem pg_cn.gt {F : Int32 → Int32} {k : Int32} {n t s : Int} (h : n = pm_cn F k.toInt.toNat) (hk : k.toInt = 20) (ht : t = s + n) (hgt : ¬ t ≤ 240) : 240 < s + pm_cn F 20 := by
  rw [hk] at h
  have h : n = pm_cn F 20 := h
  omega
/-! a word of the class -/
theorem pg_ub {w : Int32} {j : Nat} (hj : j ≤ 24) : ((w.toUInt32 >>> ((nI j).toUInt32 &&& Int32.toUInt32 31)).toInt32 &&& 255) = (w >>> (nI j &&& 31)) &&& 255 := by
  apply b_ext
  intro i hi
  rw [b_and, b_and, b_ushr j (by omega), b_sshr j (by omega) w hi, b_255]
  rcases Nat.lt_or_ge i 8 with h | h
  · rw [if_pos (by omega)]
  · rw [decide_eq_false (by omega), Bool.and_false, Bool.and_false]
theorem pg_wb {w s u b : Int32} {k : Nat} (hs : s.toInt = 24 - 8 * (k : Int)) (hk : k ≤ 3) (hu : u = (w.toUInt32 >>> (s.toUInt32 &&& Int32.toUInt32 31)).toInt32) (hb : b = u &&& 255) : b = pm_b1 w (nI k) := by
  have e := pg_nIk (k := s) (by omega)
  have e2 : s.toInt.toNat = 24 - 8 * k := by omega
  rw [e2] at e
  rw [hb, hu, e, pg_ub (by omega)]
  unfold pm_b1
  rw [(by decide +kernel : ∀ k, k ≤ 3 → (24 - 8 * (nI k - nI k / 4 * 4) : Int32) = nI (24 - 8 * k)) k hk]
def pg_B (w s b : Int32) : Prop := ∃ u : Int32, u = (w.toUInt32 >>> (s.toUInt32 &&& Int32.toUInt32 31)).toInt32 ∧ b = u &&& 255
def pg_A (w : Int32) (T : Nat → Int32) (n : Int) (U : Nat → Int32) (m s : Int) : Prop := ∃ k : Nat, s = 24 - 8 * (k : Int) ∧ k ≤ 4 ∧ pg_P (pm_b1 w) T n U m k ∧ m + pm_cn (pm_b1 w) 4 - pm_cn (pm_b1 w) k ≤ 240
theorem pg_A.zero {w : Int32} {T : Nat → Int32} {n s : Int} (hs : s = 24) (h : n + pm_cn (pm_b1 w) 4 ≤ 240) : pg_A w T n T n s := ⟨0, by omega, by omega, pg_P.zero rfl, by show n + pm_cn (pm_b1 w) 4 - 0 ≤ 240; omega⟩
theorem pg_A.no {w s b : Int32} {T U : Nat → Int32} {n m s' : Int} (h : pg_A w T n U m s.toInt) (hB : pg_B w s b) (hz : b.toInt = 0) (hs : s' = s.toInt - 8) (h0 : 0 ≤ s.toInt) : pg_A w T n U m s' := by
  obtain ⟨k, h1, h2, h3, h4⟩ := h
  obtain ⟨u, hu, hb⟩ := hB
  have e := pg_wb h1 (by omega) hu hb
  have z : pm_b1 w (nI k) = 0 := by rw [← e]; exact Int32.toInt_inj.mp (by rw [hz]; decide)
  refine ⟨k + 1, by omega, by omega, h3.s0 z, ?_⟩
  show m + pm_cn (pm_b1 w) 4 - (pm_cn (pm_b1 w) k + (if pm_b1 w (nI k) = 0 then 0 else 1)) ≤ 240
  rw [if_pos z]; omega
theorem pg_A.lt {w s b : Int32} {T U : Nat → Int32} {n m : Int} (h : pg_A w T n U m s.toInt) (hB : pg_B w s b) (hz : ¬ b.toInt = 0) (h0 : 0 ≤ s.toInt) : m ≤ 239 := by
  obtain ⟨k, h1, h2, h3, h4⟩ := h
  obtain ⟨u, hu, hb⟩ := hB
  have e := pg_wb h1 (by omega) hu hb
  have z : ¬ pm_b1 w (nI k) = 0 := fun h9 => hz (by rw [e, h9]; decide)
  have mo := pm_cn.mono (F := pm_b1 w) (4 - (k + 1)) (k + 1)
  rw [show k + 1 + (4 - (k + 1)) = 4 by omega] at mo
  have e3 : pm_cn (pm_b1 w) (k + 1) = pm_cn (pm_b1 w) k + (if pm_b1 w (nI k) = 0 then 0 else 1) := rfl
  rw [if_neg z] at e3
  omega
theorem pg_A.one {w s b i : Int32} {T U U' : Nat → Int32} {n m' s' : Int} (h : pg_A w T n U i.toInt s.toInt) (hU : U' = upd U (Int32.toNatClampNeg i) b) (hB : pg_B w s b) (hz : ¬ b.toInt = 0) (hm : m' = i.toInt + 1) (hs : s' = s.toInt - 8) (h0 : 0 ≤ s.toInt) : pg_A w T n U' m' s' := by
  obtain ⟨k, h1, h2, h3, h4⟩ := h
  obtain ⟨u, hu, hb⟩ := hB
  have e := pg_wb h1 (by omega) hu hb
  have z : ¬ pm_b1 w (nI k) = 0 := fun h9 => hz (by rw [e, h9]; decide)
  refine ⟨k + 1, by omega, by omega, ?_, ?_⟩
  · rw [hU, hm, e]; exact h3.s1 z
  · show m' + pm_cn (pm_b1 w) 4 - (pm_cn (pm_b1 w) k + (if pm_b1 w (nI k) = 0 then 0 else 1)) ≤ 240
    rw [if_neg z]; omega
theorem pg_A.out {w : Int32} {T U : Nat → Int32} {n m s : Int} (h : pg_A w T n U m s) (hs : s < 0) : pg_P (pm_b1 w) T n U m 4 := by
  obtain ⟨k, h1, h2, h3, h4⟩ := h
  rw [show (4 : Nat) = k by omega]; exact h3
theorem pg_A.sz {w : Int32} {T U : Nat → Int32} {n m s : Int} (h : pg_A w T n U m s) (hs : s < 0) : m = n + pm_cn (pm_b1 w) 4 := (h.out hs).sz
def pg_G (w : Int32) (g s : Int) : Prop := ∃ k : Nat, s = 24 - 8 * (k : Int) ∧ k ≤ 4 ∧ g = pm_cn (pm_b1 w) k
theorem pg_G.bd {w : Int32} {g s : Int} (h : pg_G w g s) : 0 ≤ g ∧ g ≤ 4 := by
  obtain ⟨k, h1, h2, h3⟩ := h
  have := pm_cn.bd h3
  omega
theorem pg_G.lt {w : Int32} {g s : Int} (h : pg_G w g s) (h0 : 0 ≤ s) : g ≤ 3 := by
  obtain ⟨k, h1, h2, h3⟩ := h
  have := pm_cn.bd h3
  omega
theorem pg_G.zero {w : Int32} {g s : Int} (hs : s = 24) (hg : g = 0) : pg_G w g s := ⟨0, by omega, by omega, hg⟩
theorem pg_G.no {w s b : Int32} {g g' s' : Int} (h : pg_G w g s.toInt) (hB : pg_B w s b) (hz : b.toInt = 0) (hs : s' = s.toInt - 8) (hg : g' = g) (h0 : 0 ≤ s.toInt) : pg_G w g' s' := by
  obtain ⟨k, h1, h2, h3⟩ := h
  obtain ⟨u, hu, hb⟩ := hB
  have e := pg_wb h1 (by omega) hu hb
  have z : pm_b1 w (nI k) = 0 := by rw [← e]; exact Int32.toInt_inj.mp (by rw [hz]; decide)
  refine ⟨k + 1, by omega, by omega, ?_⟩
  show g' = pm_cn (pm_b1 w) k + (if pm_b1 w (nI k) = 0 then 0 else 1)
  rw [if_pos z]; omega
theorem pg_G.one {w s b : Int32} {g g' s' : Int} (h : pg_G w g s.toInt) (hB : pg_B w s b) (hz : ¬ b.toInt = 0) (hs : s' = s.toInt - 8) (hg : g' = g + 1) (h0 : 0 ≤ s.toInt) : pg_G w g' s' := by
  obtain ⟨k, h1, h2, h3⟩ := h
  obtain ⟨u, hu, hb⟩ := hB
  have e := pg_wb h1 (by omega) hu hb
  have z : ¬ pm_b1 w (nI k) = 0 := fun h9 => hz (by rw [e, h9]; decide)
  refine ⟨k + 1, by omega, by omega, ?_⟩
  show g' = pm_cn (pm_b1 w) k + (if pm_b1 w (nI k) = 0 then 0 else 1)
  rw [if_neg z]; omega
theorem pg_G.out {w : Int32} {g s : Int} (h : pg_G w g s) (hs : s < 0) : g = pm_cn (pm_b1 w) 4 := by
  obtain ⟨k, h1, h2, h3⟩ := h
  rw [show (4 : Nat) = k by omega]; exact h3

def pg_fd (F : Int32 → Int32) (T : Nat → Int32) (n : Int) : Int × (Nat → Int32) × Int := if 240 < n + pm_cn F 20 then (-1, T, n) else ((pg_pf F T n 20).2, (pg_pf F T n 20).1, (pg_pf F T n 20).2)
theorem pg_fd.no {F : Int32 → Int32} {T U : Nat → Int32} {n m r : Int} (h : 240 < n + pm_cn F 20) (hr : r = -1) (hU : U = T) (hm : m = n) : (r, U, m) = pg_fd F T n := by
  unfold pg_fd; rw [if_pos h, hr, hU, hm]
theorem pg_fd.go {F : Int32 → Int32} {T U : Nat → Int32} {n m r : Int} (h : ¬ 240 < n + pm_cn F 20) (hP : pg_P F T n U m 20) (hr : r = m) : (r, U, m) = pg_fd F T n := by
  unfold pg_fd; rw [if_neg h, ← show (U, m) = pg_pf F T n 20 from hP, hr]
theorem pg_fd.g2 {F : Int32 → Int32} {T U : Nat → Int32} {n m r : Int} {k : Nat} (hP : pg_P F T n U m k) (hk : k = 20) (hm : m ≤ 240) (hr : r = m) : (r, U, m) = pg_fd F T n := by
  subst hk
  exact pg_fd.go (by have := hP.sz; omega) hP hr
theorem pg_fd.inj {F : Int32 → Int32} {T U V : Nat → Int32} {n m p r q : Int} (h : (r, U, m) = pg_fd F T n) (h2 : (q, V, p) = pg_fd F T n) : r = q ∧ U = V ∧ m = p := by
  have e := h.trans h2.symm
  exact ⟨congrArg Prod.fst e, congrArg (fun z => z.2.1) e, congrArg (fun z => z.2.2) e⟩
end PGF
