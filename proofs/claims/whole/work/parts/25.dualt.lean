/-! sets as bits -/
theorem zbit_iff {m b : Int} (hm : 0 ≤ m) : zbit m b ↔ m.toNat.testBit b.toNat = true := by
  obtain ⟨x, rfl⟩ := Int.eq_ofNat_of_zero_le hm
  show ((x : Int) / 2 ^ b.toNat % 2 = 1) ↔ _
  generalize b.toNat = k
  rw [Nat.testBit_eq_decide_div_mod_eq]
  simp only [decide_eq_true_eq, Int.toNat_natCast]
  have e : ((x : Int) / 2 ^ k % 2) = ((x / 2 ^ k % 2 : Nat) : Int) := by simp
  constructor
  · intro h
    have h2 : ((x : Int) / 2 ^ k % 2) = 1 := h
    rw [e] at h2; omega
  · intro h
    show ((x : Int) / 2 ^ k % 2) = 1
    rw [e]; omega
theorem zor_nn (a b : Int) : 0 ≤ zor a b := Int.natCast_nonneg _
theorem zandn_nn (a b : Int) : 0 ≤ zandn a b := Int.natCast_nonneg _
theorem pow_toNat (k : Nat) : (1 * 2 ^ k : Int).toNat = 2 ^ k := by
  have : (1 * 2 ^ k : Int) = ((2 ^ k : Nat) : Int) := by simp
  rw [this]; rfl
theorem zbit_zor {m n j : Int} (hm : 0 ≤ m) (hn : 0 ≤ n) (hj : 0 ≤ j) : zbit (zor m (1 * 2 ^ n.toNat)) j ↔ zbit m j ∨ j = n := by
  rw [zbit_iff (zor_nn _ _), zbit_iff hm]
  unfold zor
  rw [Int.toNat_natCast, Nat.testBit_or, pow_toNat, Nat.testBit_two_pow]
  simp only [Bool.or_eq_true, decide_eq_true_eq]
  constructor
  · rintro (h | h)
    · exact Or.inl h
    · exact Or.inr (by omega)
  · rintro (h | h)
    · exact Or.inl h
    · exact Or.inr (by omega)
theorem zbit_zandn {m n j : Int} (hm : 0 ≤ m) (hn : 0 ≤ n) (hj : 0 ≤ j) : zbit (zandn m (1 * 2 ^ n.toNat)) j ↔ zbit m j ∧ j ≠ n := by
  rw [zbit_iff (zandn_nn _ _), zbit_iff hm]
  unfold zandn
  rw [Int.toNat_natCast, andn_bit, pow_toNat, Nat.testBit_two_pow]
  simp only [Bool.and_eq_true, Bool.not_eq_true', decide_eq_false_iff_not]
  constructor
  · rintro ⟨h1, h2⟩
    exact ⟨h1, by omega⟩
  · rintro ⟨h1, h2⟩
    exact ⟨h1, by omega⟩
theorem zandn_le {a b : Int} (ha : 0 ≤ a) : zandn a b ≤ a := by
  obtain ⟨x, rfl⟩ := Int.eq_ofNat_of_zero_le ha
  unfold zandn andn
  have e : x ^^^ (x &&& b.toNat) = x &&& (x ^^^ (x &&& b.toNat)) := by
    apply Nat.eq_of_testBit_eq
    intro i
    have := andn_bit x b.toNat i
    unfold andn at this
    rw [Nat.testBit_and, this]
    cases x.testBit i <;> cases b.toNat.testBit i <;> rfl
  have h1 : x ^^^ (x &&& b.toNat) ≤ x := by rw [e]; exact Nat.and_le_left
  rw [Int.toNat_natCast]
  exact_mod_cast h1
theorem zor_lt {a b : Int} {k : Nat} (ha : 0 ≤ a) (ha2 : a < 2 ^ k) (hb2 : b < 2 ^ k) : zor a b < 2 ^ k := by
  unfold zor
  have h1 : a.toNat < 2 ^ k := by
    have : ((a.toNat : Nat) : Int) < ((2 ^ k : Nat) : Int) := by rw [Int.toNat_of_nonneg ha]; simpa using ha2
    exact_mod_cast this
  have h2 : b.toNat < 2 ^ k := by
    by_cases hb : 0 ≤ b
    · have : ((b.toNat : Nat) : Int) < ((2 ^ k : Nat) : Int) := by rw [Int.toNat_of_nonneg hb]; simpa using hb2
      exact_mod_cast this
    · have : b.toNat = 0 := by omega
      rw [this]; exact Nat.two_pow_pos k
  have h3 : a.toNat ||| b.toNat < 2 ^ k := Nat.or_lt_two_pow h1 h2
  have : ((a.toNat ||| b.toNat : Nat) : Int) < ((2 ^ k : Nat) : Int) := by exact_mod_cast h3
  simpa using this
theorem zpow_lt {n : Int} {k : Nat} (h0 : 0 ≤ n) (h1 : n < k) : (1 : Int) ≤ 1 * 2 ^ n.toNat ∧ (1 * 2 ^ n.toNat : Int) < 2 ^ k := by
  have h2 : n.toNat < k := by omega
  have h3 : (2 : Nat) ^ n.toNat < 2 ^ k := Nat.pow_lt_pow_right (by decide) h2
  have h4 : 0 < (2 : Nat) ^ n.toNat := Nat.two_pow_pos _
  have e1 : (1 * 2 ^ n.toNat : Int) = ((2 ^ n.toNat : Nat) : Int) := by simp
  have e2 : (2 : Int) ^ k = ((2 ^ k : Nat) : Int) := by simp
  rw [e1, e2]
  constructor
  · exact_mod_cast h4
  · exact_mod_cast h3
