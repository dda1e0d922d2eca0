/-! bits of sets -/
theorem zand_nn (a b : Int) : 0 ≤ zand a b := Int.natCast_nonneg _
theorem zbit_and {m k j : Int} (hm : 0 ≤ m) (hk : 0 ≤ k) : zbit (zand m k) j ↔ zbit m j ∧ zbit k j := by
  rw [zbit_iff (zand_nn _ _), zbit_iff hm, zbit_iff hk]
  unfold zand
  rw [Int.toNat_natCast, Nat.testBit_and, Bool.and_eq_true]
theorem zbit_or {m k j : Int} (hm : 0 ≤ m) (hk : 0 ≤ k) : zbit (zor m k) j ↔ zbit m j ∨ zbit k j := by
  rw [zbit_iff (zor_nn _ _), zbit_iff hm, zbit_iff hk]
  unfold zor
  rw [Int.toNat_natCast, Nat.testBit_or, Bool.or_eq_true]
theorem zbit_andn {m k j : Int} (hm : 0 ≤ m) (hk : 0 ≤ k) : zbit (zandn m k) j ↔ zbit m j ∧ ¬ zbit k j := by
  rw [zbit_iff (zandn_nn _ _), zbit_iff hm, zbit_iff hk]
  unfold zandn
  rw [Int.toNat_natCast, andn_bit, Bool.and_eq_true, Bool.not_eq_true', Bool.not_eq_true]
theorem zbit_ext {x y : Int} (hx : 0 ≤ x) (hy : 0 ≤ y) (h : ∀ j, 0 ≤ j → (zbit x j ↔ zbit y j)) : x = y := by
  have : x.toNat = y.toNat := by
    apply Nat.eq_of_testBit_eq
    intro i
    have := h (i : Int) (Int.natCast_nonneg i)
    rw [zbit_iff hx, zbit_iff hy, Int.toNat_natCast] at this
    cases h1 : x.toNat.testBit i <;> cases h2 : y.toNat.testBit i <;> rw [h1, h2] at this <;> simp_all
  omega
theorem zbit_high {x j : Int} {k : Nat} (hx : 0 ≤ x) (h : x < 2 ^ k) (hj : (k : Int) ≤ j) : ¬ zbit x j := by
  intro hb
  rw [zbit_iff hx] at hb
  have h1 : x.toNat < 2 ^ k := by
    have : ((x.toNat : Nat) : Int) < ((2 ^ k : Nat) : Int) := by rw [Int.toNat_of_nonneg hx]; simpa using h
    exact_mod_cast this
  have h2 : x.toNat < 2 ^ j.toNat := Nat.lt_of_lt_of_le h1 (Nat.pow_le_pow_right (by decide) (by omega))
  rw [Nat.testBit_lt_two_pow h2] at hb
  cases hb
theorem zbit_pow {n j : Int} (hn : 0 ≤ n) (hj : 0 ≤ j) : zbit (1 * 2 ^ n.toNat) j ↔ j = n := by
  have h0 : (0 : Int) ≤ 1 * 2 ^ n.toNat := by
    have : (1 * 2 ^ n.toNat : Int) = ((2 ^ n.toNat : Nat) : Int) := by simp
    rw [this]; exact Int.natCast_nonneg _
  rw [zbit_iff h0, pow_toNat, Nat.testBit_two_pow]
  simp only [decide_eq_true_eq]; omega
theorem zand_le {a b : Int} (ha : 0 ≤ a) : zand a b ≤ a := by
  unfold zand
  have : a.toNat &&& b.toNat ≤ a.toNat := Nat.and_le_left
  omega
theorem zlt_of {x : Int} {k : Nat} (hx : 0 ≤ x) (h : ∀ j, (k : Int) ≤ j → ¬ zbit x j) : x < 2 ^ k := by
  have : x.toNat < 2 ^ k := by
    apply Nat.lt_pow_two_of_testBit
    intro i hi
    have := h (i : Int) (by omega)
    rw [zbit_iff hx, Int.toNat_natCast] at this
    simpa using this
  have h2 : ((x.toNat : Nat) : Int) < ((2 ^ k : Nat) : Int) := by exact_mod_cast this
  rw [Int.toNat_of_nonneg hx] at h2
  simpa using h2
/-- the lowest bit -/
def isLow (x l : Int) : Prop := 0 ≤ l ∧ zbit x l ∧ ∀ j, 0 ≤ j → j < l → ¬ zbit x j
theorem isLow.uniq {x l m : Int} (h : isLow x l) (g : isLow x m) : l = m := by
  rcases Int.lt_or_le l m with c | c
  · exact absurd h.2.1 (g.2.2 l h.1 c)
  · rcases Int.lt_or_le m l with d | d
    · exact absurd g.2.1 (h.2.2 m g.1 d)
    · omega
theorem odd_part : ∀ n : Nat, 0 < n → ∃ l m, n = 2 ^ l * (2 * m + 1) := by
  intro n
  induction n using Nat.strongRecOn with
  | ind n ih =>
    intro hn
    by_cases h : n % 2 = 1
    · exact ⟨0, n / 2, by omega⟩
    · obtain ⟨l, m, e⟩ := ih (n / 2) (by omega) (by omega)
      refine ⟨l + 1, m, ?_⟩
      have : n = 2 * (n / 2) := by omega
      rw [this, e, Nat.pow_succ, Nat.mul_comm (2 ^ l) 2, Nat.mul_assoc]
/-- a number and the one before it -/
theorem low_bits {x : Int} (hx : 0 < x) : ∃ l, isLow x l ∧ ∀ j, 0 ≤ j → (zbit (x - 1) j ↔ j < l ∨ (l < j ∧ zbit x j)) := by
  obtain ⟨n, rfl⟩ := Int.eq_ofNat_of_zero_le (Int.le_of_lt hx)
  obtain ⟨l, m, e⟩ := odd_part n (by omega)
  have h1 : ∀ j : Nat, n.testBit j = (decide (l ≤ j) && (2 * m + 1).testBit (j - l)) := fun j => by rw [e, Nat.testBit_two_pow_mul]
  have h2 : n - 1 = 2 ^ l * (2 * m) + (2 ^ l - 1) := by
    have : 0 < 2 ^ l := Nat.two_pow_pos l
    rw [e, Nat.mul_add, Nat.mul_one]; omega
  have h3 : ∀ j : Nat, (n - 1).testBit j = if j < l then true else (2 * m).testBit (j - l) := fun j => by
    rw [h2, Nat.testBit_two_pow_mul_add _ (by have := Nat.two_pow_pos l; omega)]
    by_cases c : j < l
    · rw [if_pos c, if_pos c, Nat.testBit_two_pow_sub_one, decide_eq_true c]
    · rw [if_neg c, if_neg c]
  have zb : ∀ (y : Nat) (j : Int), zbit (y : Int) j ↔ y.testBit j.toNat = true := fun y j => by rw [zbit_iff (Int.natCast_nonneg y), Int.toNat_natCast]
  refine ⟨(l : Int), ⟨Int.natCast_nonneg l, ?_, fun j j1 j2 => ?_⟩, fun j j1 => ?_⟩
  · rw [zb, Int.toNat_natCast, h1, Nat.sub_self]; simp
  · rw [zb, h1]
    have : ¬ l ≤ j.toNat := by omega
    simp [this]
  · have e1 : ((n : Int) - 1) = ((n - 1 : Nat) : Int) := by omega
    rw [e1, zb, zb, h3, h1]
    by_cases c : j.toNat < l
    · rw [if_pos c]
      exact ⟨fun _ => Or.inl (by omega), fun _ => rfl⟩
    · rw [if_neg c]
      by_cases d : j.toNat = l
      · rw [d, Nat.sub_self]
        constructor
        · intro h
          rw [Nat.testBit_zero] at h
          simp at h
        · rintro (h | ⟨h, -⟩) <;> omega
      · have e3 : j.toNat - l = (j.toNat - l - 1) + 1 := by omega
        have e4 : (2 * m).testBit (j.toNat - l) = (2 * m + 1).testBit (j.toNat - l) := by
          rw [e3, Nat.testBit_succ, Nat.testBit_succ]
          congr 1; omega
        rw [e4]
        constructor
        · intro h
          exact Or.inr ⟨by omega, by simp [h]; omega⟩
        · rintro (h | ⟨h, h5⟩)
          · omega
          · simp only [Bool.and_eq_true] at h5; exact h5.2
theorem isLow.ex {x : Int} (hx : 0 < x) : ∃ l, isLow x l := by
  obtain ⟨l, h, -⟩ := low_bits hx
  exact ⟨l, h⟩
theorem low_prev {x l : Int} (hx : 0 < x) (h : isLow x l) {j : Int} (hj : 0 ≤ j) : zbit (x - 1) j ↔ j < l ∨ (l < j ∧ zbit x j) := by
  obtain ⟨l', h', hb⟩ := low_bits hx
  rw [h.uniq h']; exact hb j hj
/-- without its lowest bit -/
theorem low_off {x l : Int} (hx : 0 < x) (h : isLow x l) {j : Int} (hj : 0 ≤ j) : zbit (zand x (x - 1)) j ↔ zbit x j ∧ j ≠ l := by
  rw [zbit_and (by omega) (by omega), low_prev hx h hj]
  constructor
  · rintro ⟨a, b | b⟩
    · exact absurd a (h.2.2 j hj b)
    · exact ⟨a, by omega⟩
  · rintro ⟨a, b⟩
    refine ⟨a, Or.inr ⟨?_, a⟩⟩
    rcases Int.lt_or_le l j with c | c
    · exact c
    · exact absurd a (h.2.2 j hj (by omega))
theorem low_on {x l : Int} (hx : 0 < x) (h : isLow x l) : zandn x (x - 1) = 1 * 2 ^ l.toNat := by
  have h0 : (0 : Int) ≤ 1 * 2 ^ l.toNat := by
    have : (1 * 2 ^ l.toNat : Int) = ((2 ^ l.toNat : Nat) : Int) := by simp
    rw [this]; exact Int.natCast_nonneg _
  refine zbit_ext (zandn_nn _ _) h0 (fun j hj => ?_)
  rw [zbit_andn (by omega) (by omega), low_prev hx h hj, zbit_pow h.1 hj]
  constructor
  · rintro ⟨a, b⟩
    rcases Int.lt_or_le j l with c | c
    · exact absurd (Or.inl c) b
    · rcases Int.lt_or_le l j with d | d
      · exact absurd (Or.inr ⟨d, a⟩) b
      · omega
  · intro e
    subst e
    exact ⟨h.2.1, fun q => by omega⟩
/-! how many bits -/
theorem bb_zbit (m b : Int) : bb (zbit m b) = m / 2 ^ b.toNat % 2 := by
  by_cases h : zbit m b
  · rw [bb_t h]; exact h.symm
  · rw [bb_f h]
    have h2 : ¬ m / 2 ^ b.toNat % 2 = 1 := h
    omega
noncomputable def zcnt (x : Int) : Int := pcnt (zbit x) 24
theorem pcnt_split (P : Int → Prop) {a : Int} (ha : 0 ≤ a) : ∀ b : Nat, pcnt P (a + b) = pcnt P a + pcnt (fun j => P (a + j)) b
  | 0 => by rw [pcnt_0 _ (v := ((0 : Nat) : Int)) (by omega), show a + ((0 : Nat) : Int) = a by omega]; omega
  | b + 1 => by
    have h1 := pcnt_split P ha b
    have h2 := pcnt_s P (v := a + b) (by omega)
    have h3 := pcnt_s (fun j => P (a + j)) (v := b) (by omega)
    rw [show a + ((b + 1 : Nat) : Int) = a + (b : Int) + 1 by omega, show ((b + 1 : Nat) : Int) = (b : Int) + 1 by omega, h2, h3, h1]; omega
theorem pcnt_none {P : Int → Prop} {v : Int} (h : ∀ j, 0 ≤ j → j < v → ¬ P j) : pcnt P v = 0 := by
  rcases Int.lt_or_le v 0 with c | c
  · exact pcnt_0 P (by omega)
  · obtain ⟨n, rfl⟩ := Int.eq_ofNat_of_zero_le c
    have : pcnt P n = pcnt (fun _ => False) n := pcnt_congr (fun u u1 u2 => ⟨fun q => h u u1 u2 q, fun q => q.elim⟩)
    rw [this]
    clear this h c
    induction n with
    | zero => exact pcnt_0 _ (by omega)
    | succ n ih =>
      rw [show ((n + 1 : Nat) : Int) = (n : Int) + 1 by omega, pcnt_s _ (by omega), ih, bb_f id]; rfl
theorem zcnt_lt {x : Int} {k : Nat} (hx : 0 ≤ x) (h : x < 2 ^ k) (hk : k ≤ 24) : zcnt x = pcnt (zbit x) k := by
  unfold zcnt
  have e := pcnt_split (zbit x) (a := k) (by omega) (24 - k)
  rw [show (k : Int) + ((24 - k : Nat) : Int) = 24 by omega] at e
  have e2 := pcnt_none (P := fun j => zbit x (k + j)) (v := ((24 - k : Nat) : Int)) (fun j j1 j2 => zbit_high hx h (by omega))
  rw [e, e2, Int.add_zero]
/-- sets apart -/
theorem pcnt_add {P Q R : Int → Prop} {v : Int} (h : ∀ j, 0 ≤ j → j < v → bb (P j) = bb (Q j) + bb (R j)) : pcnt P v = pcnt Q v + pcnt R v := by
  rcases Int.lt_or_le v 0 with c | c
  · rw [pcnt_0 P (by omega), pcnt_0 Q (by omega), pcnt_0 R (by omega)]; rfl
  · obtain ⟨n, rfl⟩ := Int.eq_ofNat_of_zero_le c
    clear c
    induction n with
    | zero => rw [pcnt_0 _ (v := ((0 : Nat) : Int)) (by omega), pcnt_0 _ (v := ((0 : Nat) : Int)) (by omega), pcnt_0 _ (v := ((0 : Nat) : Int)) (by omega)]; rfl
    | succ n ih =>
      rw [show ((n + 1 : Nat) : Int) = (n : Int) + 1 by omega, pcnt_s _ (by omega), pcnt_s _ (by omega), pcnt_s _ (by omega), h n (by omega) (by omega), ih (fun j a b => h j a (by omega))]; omega
theorem zcnt_part {s b : Int} (hs : 0 ≤ s) (hb : 0 ≤ b) (h : ∀ j, 0 ≤ j → zbit b j → zbit s j) : zcnt s = zcnt b + zcnt (zandn s b) := by
  unfold zcnt
  refine pcnt_add (fun j j1 j2 => ?_)
  have e := zbit_andn (j := j) hs hb
  by_cases c : zbit b j
  · rw [bb_t (h j j1 c), bb_t c, bb_f (fun q => (e.mp q).2 c)]; rfl
  · by_cases d : zbit s j
    · rw [bb_t d, bb_f c, bb_t (e.mpr ⟨d, c⟩)]; rfl
    · rw [bb_f d, bb_f c, bb_f (fun q => d (e.mp q).1)]; rfl
theorem zcnt_nn (x : Int) : 0 ≤ zcnt x ∧ zcnt x ≤ 24 := by
  have := pcnt_nn (zbit x) 24
  unfold zcnt; omega
theorem zcnt_pos {x l : Int} (h : zbit x l) (h0 : 0 ≤ l ∧ l < 24) : 1 ≤ zcnt x := by
  unfold zcnt
  have h1 := pcnt_mono (zbit x) (show l + 1 ≤ 24 by omega)
  rw [pcnt_s _ h0.1, bb_t h] at h1
  have := (pcnt_nn (zbit x) l).1
  omega
/-- the bits below one -/
theorem zbit_below {l j : Int} (hl : 0 ≤ l) (hj : 0 ≤ j) : zbit (1 * 2 ^ l.toNat - 1) j ↔ j < l := by
  have e : (1 * 2 ^ l.toNat - 1 : Int) = ((2 ^ l.toNat - 1 : Nat) : Int) := by
    have : 0 < 2 ^ l.toNat := Nat.two_pow_pos _
    have e2 : (2 ^ l.toNat : Int) = ((2 ^ l.toNat : Nat) : Int) := by simp
    rw [Int.one_mul, e2]; omega
  rw [e, zbit_iff (Int.natCast_nonneg _), Int.toNat_natCast, Nat.testBit_two_pow_sub_one, decide_eq_true_eq]; omega
theorem pcnt_all {P : Int → Prop} : ∀ n : Nat, (∀ j : Int, 0 ≤ j → j < n → P j) → pcnt P n = n
  | 0, _ => pcnt_0 _ (by omega)
  | n + 1, h => by
    rw [show ((n + 1 : Nat) : Int) = (n : Int) + 1 by omega, pcnt_s _ (by omega), pcnt_all n (fun j a b => h j a (by omega)), bb_t (h n (by omega) (by omega))]
theorem zcnt_below {l : Int} (hl : 0 ≤ l ∧ l < 24) : zcnt (1 * 2 ^ l.toNat - 1) = l := by
  obtain ⟨n, rfl⟩ := Int.eq_ofNat_of_zero_le hl.1
  unfold zcnt
  have e := pcnt_split (zbit (1 * 2 ^ (n : Int).toNat - 1)) (a := n) (by omega) (24 - n)
  rw [show (n : Int) + ((24 - n : Nat) : Int) = 24 by omega] at e
  have e2 := pcnt_none (P := fun j => zbit (1 * 2 ^ (n : Int).toNat - 1) (n + j)) (v := ((24 - n : Nat) : Int)) (fun j j1 j2 q => by have := (zbit_below (l := n) (j := n + j) (by omega) (by omega)).mp q; omega)
  have e3 := pcnt_all (P := zbit (1 * 2 ^ (n : Int).toNat - 1)) n (fun j a b => (zbit_below (by omega) a).mpr b)
  rw [e, e2, e3, Int.add_zero]
