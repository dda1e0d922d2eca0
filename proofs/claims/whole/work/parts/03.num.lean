/-! numbers: ints and longs as the images of whole numbers -/
def iI (z : Int) : Int32 := Int32.ofInt z
def iL (z : Int) : Int64 := Int64.ofInt z
abbrev inR (z : Int) : Prop := -2147483648 ≤ z ∧ z ≤ 2147483647
abbrev inL (z : Int) : Prop := -9223372036854775808 ≤ z ∧ z ≤ 9223372036854775807
theorem iI_of (x : Int32) : iI x.toInt = x := Int32.ofInt_toInt x
theorem iI_inR (x : Int32) : inR x.toInt := by
  have h1 := Int32.toInt_lt x
  have h2 := Int32.le_toInt x
  constructor <;> omega
theorem iI_toInt {a : Int} (h : inR a) : (iI a).toInt = a := Int32.toInt_ofInt_of_le (by omega) (by omega)
theorem iL_toInt {a : Int} (h : inL a) : (iL a).toInt = a := Int64.toInt_ofInt_of_le (by omega) (by omega)
theorem iI_inj {a b : Int} (ha : inR a) (hb : inR b) : iI a = iI b ↔ a = b := by
  constructor
  · intro h
    have := congrArg Int32.toInt h
    rwa [iI_toInt ha, iI_toInt hb] at this
  · intro h; rw [h]
theorem iI_lt {a b : Int} (ha : inR a) (hb : inR b) : iI a < iI b ↔ a < b := by
  rw [Int32.lt_iff_toInt_lt, iI_toInt ha, iI_toInt hb]
theorem iI_le {a b : Int} (ha : inR a) (hb : inR b) : iI a ≤ iI b ↔ a ≤ b := by
  rw [Int32.le_iff_toInt_le, iI_toInt ha, iI_toInt hb]
theorem iI_zero : iI 0 = 0 := rfl
theorem iI_bv (a : Int) : (iI a).toBitVec = BitVec.ofInt 32 a := rfl
theorem iI_add (a b : Int) : iI a + iI b = iI (a + b) := by
  apply Int32.toBitVec.inj
  rw [Int32.toBitVec_add, iI_bv, iI_bv, iI_bv, BitVec.ofInt_add]
theorem iI_mul (a b : Int) : iI a * iI b = iI (a * b) := by
  apply Int32.toBitVec.inj
  rw [Int32.toBitVec_mul, iI_bv, iI_bv, iI_bv, BitVec.ofInt_mul]
theorem iI_neg (a : Int) : - iI a = iI (-a) := by
  apply Int32.toBitVec.inj
  rw [Int32.toBitVec_neg, iI_bv, iI_bv, BitVec.ofInt_neg]
theorem iI_sub (a b : Int) : iI a - iI b = iI (a - b) := by
  rw [Int32.sub_eq_add_neg, iI_neg, iI_add, Int.sub_eq_add_neg]
theorem iL_bv (a : Int) : (iL a).toBitVec = BitVec.ofInt 64 a := rfl
theorem iL_add (a b : Int) : iL a + iL b = iL (a + b) := by
  apply Int64.toBitVec.inj
  rw [Int64.toBitVec_add, iL_bv, iL_bv, iL_bv, BitVec.ofInt_add]
theorem iL_mul (a b : Int) : iL a * iL b = iL (a * b) := by
  apply Int64.toBitVec.inj
  rw [Int64.toBitVec_mul, iL_bv, iL_bv, iL_bv, BitVec.ofInt_mul]
theorem iI_l {a : Int} (h : inR a) : (iI a).toInt64 = iL a := by
  apply Int64.toInt.inj
  rw [Int32.toInt_toInt64, iI_toInt h, iL_toInt (by omega)]
theorem iL_i (a : Int) : (iL a).toInt32 = iI a := Int64.toInt32_ofInt
theorem iI_cl {a : Int} (h0 : 0 ≤ a) (h : a ≤ 2147483647) : (iI a).toNatClampNeg = a.toNat := by
  show (iI a).toInt.toNat = a.toNat
  rw [iI_toInt (by omega)]
theorem iI_in {a : Int} {n : Nat} (h0 : 0 ≤ a) (h1 : a < n) (hn : a ≤ 2147483647) : vp_in (iI a) n := by
  rw [vp_in_iff, iI_toInt (by omega)]
  exact ⟨h0, h1⟩
theorem iI_div {a b : Int} (ha : 0 ≤ a) (ha2 : a ≤ 2147483647) (hb : 0 < b) (hb2 : b ≤ 2147483647) : iI a / iI b = iI (a / b) := by
  apply Int32.toInt.inj
  have h1 : 0 ≤ a / b := Int.ediv_nonneg ha (by omega)
  have h2 : a / b ≤ a := Int.ediv_le_self b ha
  rw [Int32.toInt_div_of_ne_right _ _ (fun h => ?_), iI_toInt (by omega), iI_toInt (by omega), iI_toInt (by omega), Int.tdiv_eq_ediv_of_nonneg ha]
  have := congrArg Int32.toInt h
  rw [iI_toInt (by omega)] at this
  have h3 : (-1 : Int32).toInt = -1 := rfl
  omega
theorem iI_rem {a b : Int} (ha : 0 ≤ a) (ha2 : a ≤ 2147483647) (hb : 0 < b) (hb2 : b ≤ 2147483647) : iI a - iI a / iI b * iI b = iI (a % b) := by
  rw [iI_div ha ha2 hb hb2, iI_mul, iI_sub]
  congr 1
  have := Int.emod_add_mul_ediv a b
  have e : a / b * b = b * (a / b) := Int.mul_comm _ _
  omega
theorem iI_nz {b : Int} (hb : inR b) (h : b ≠ 0) : ¬ iI b = 0 := by
  rw [← iI_zero, iI_inj hb (by omega)]; exact h
theorem lg_cmp_i {a b : Int} (ha : inL a) (hb : inL b) : lg_cmp (iL a) (iL b) = iI (if b < a then 1 else if a = b then 0 else -1) := by
  unfold lg_cmp
  have h1 : iL a > iL b ↔ b < a := by
    show iL b < iL a ↔ _
    rw [Int64.lt_iff_toInt_lt, iL_toInt ha, iL_toInt hb]
  have h2 : iL a = iL b ↔ a = b := by
    constructor
    · intro h
      have := congrArg Int64.toInt h
      rwa [iL_toInt ha, iL_toInt hb] at this
    · intro h; rw [h]
  by_cases c1 : b < a
  · rw [if_pos (h1.mpr c1), if_pos c1]; rfl
  · rw [if_neg (fun h => c1 (h1.mp h)), if_neg c1]
    by_cases c2 : a = b
    · rw [if_pos (h2.mpr c2), if_pos c2]; rfl
    · rw [if_neg (fun h => c2 (h2.mp h)), if_neg c2]; rfl
/-! bits of numbers that are not negative -/
theorem iI_bvn (x : Nat) : (iI (x : Int)).toBitVec = BitVec.ofNat 32 x := by
  rw [iI_bv, BitVec.ofInt_natCast]
theorem iI_and (x y : Nat) (hx : x < 4294967296) (hy : y < 4294967296) : iI (x : Int) &&& iI (y : Int) = iI ((x &&& y : Nat) : Int) := by
  apply Int32.toBitVec.inj
  rw [Int32.toBitVec_and, iI_bvn, iI_bvn, iI_bvn]
  apply BitVec.eq_of_toNat_eq
  rw [BitVec.toNat_and, BitVec.toNat_ofNat, BitVec.toNat_ofNat, BitVec.toNat_ofNat, Nat.mod_eq_of_lt hx, Nat.mod_eq_of_lt hy, Nat.mod_eq_of_lt (Nat.lt_of_le_of_lt Nat.and_le_left hx)]
theorem iI_or (x y : Nat) (hx : x < 4294967296) (hy : y < 4294967296) : iI (x : Int) ||| iI (y : Int) = iI ((x ||| y : Nat) : Int) := by
  apply Int32.toBitVec.inj
  rw [Int32.toBitVec_or, iI_bvn, iI_bvn, iI_bvn]
  apply BitVec.eq_of_toNat_eq
  rw [BitVec.toNat_or, BitVec.toNat_ofNat, BitVec.toNat_ofNat, BitVec.toNat_ofNat, Nat.mod_eq_of_lt hx, Nat.mod_eq_of_lt hy, Nat.mod_eq_of_lt (Nat.or_lt_two_pow (n := 32) hx hy)]
theorem iI_not (a : Int) : iI a ^^^ iI (-1) = iI (-a - 1) := by
  have e : iI (-a - 1) = -iI a + iI (-1) := by rw [iI_neg, iI_add, Int.sub_eq_add_neg]
  rw [e]
  generalize iI a = x
  apply Int32.toBitVec.inj
  have h1 : (iI (-1)).toBitVec = BitVec.allOnes 32 := by decide
  rw [Int32.toBitVec_xor, Int32.toBitVec_add, Int32.toBitVec_neg, h1, BitVec.xor_allOnes, BitVec.not_eq_neg_add, BitVec.sub_eq_add_neg]
  congr 1
/-- what is in x and not in y -/
def andn (x y : Nat) : Nat := x ^^^ (x &&& y)
theorem andn_bit (x y i : Nat) : (andn x y).testBit i = (x.testBit i && !y.testBit i) := by
  unfold andn
  rw [Nat.testBit_xor, Nat.testBit_and]
  cases x.testBit i <;> cases y.testBit i <;> rfl
theorem andn_lt {x y n : Nat} (h : x < 2 ^ n) : andn x y < 2 ^ n := Nat.xor_lt_two_pow h (Nat.lt_of_le_of_lt Nat.and_le_left h)
theorem iI_andn (x y : Nat) (hx : x < 4294967296) (hy : y < 4294967296) : iI (x : Int) &&& iI (-(y : Int) - 1) = iI ((andn x y : Nat) : Int) := by
  rw [← iI_not]
  apply Int32.toBitVec.inj
  rw [Int32.toBitVec_and, Int32.toBitVec_xor, iI_bvn, iI_bvn, iI_bvn]
  have h1 : (iI (-1)).toBitVec = BitVec.allOnes 32 := by decide
  rw [h1]
  apply BitVec.eq_of_getLsbD_eq
  intro i hi
  rw [BitVec.getLsbD_and, BitVec.getLsbD_xor, BitVec.getLsbD_ofNat, BitVec.getLsbD_ofNat, BitVec.getLsbD_ofNat, BitVec.getLsbD_allOnes, andn_bit]
  simp [hi]
theorem iI_and31 {b : Int} (h0 : 0 ≤ b) (h1 : b < 32) : (iI b &&& (31 : Int32)) = iI b := by
  obtain ⟨n, rfl⟩ := Int.eq_ofNat_of_zero_le h0
  have e : (31 : Int32) = iI ((31 : Nat) : Int) := rfl
  rw [e, iI_and _ _ (by omega) (by omega)]
  congr 2
  have : (31 : Nat) = 2 ^ 5 - 1 := rfl
  rw [this, Nat.and_two_pow_sub_one_eq_mod]
  omega
theorem iI_shl {a b : Int} (h0 : 0 ≤ b) (h1 : b < 32) : iI a <<< (iI b &&& (31 : Int32)) = iI (a * 2 ^ b.toNat) := by
  rw [iI_and31 h0 h1]
  obtain ⟨n, rfl⟩ := Int.eq_ofNat_of_zero_le h0
  apply Int32.toBitVec.inj
  rw [Int32.toBitVec_shiftLeft, iI_bv]
  have hn : ((iI ((n : Nat) : Int)).toBitVec.smod 32).toNat = n := by
    have hz : ∀ k, k < 32 → ((iI ((k : Nat) : Int)).toBitVec.smod 32).toNat = k := by decide
    exact hz n (by omega)
  rw [BitVec.shiftLeft_eq', hn, iI_bv, BitVec.shiftLeft_eq_mul_twoPow, BitVec.ofInt_mul]
  congr 1
  rw [show ((n : Nat) : Int).toNat = n from rfl, show (2 : Int) ^ n = ((2 ^ n : Nat) : Int) by simp, BitVec.ofInt_natCast]
  apply BitVec.eq_of_toNat_eq
  simp [BitVec.toNat_twoPow]
theorem iI_shr {a b : Int} (ha : inR a) (h0 : 0 ≤ b) (h1 : b < 32) : iI a >>> (iI b &&& (31 : Int32)) = iI (a / 2 ^ b.toNat) := by
  rw [iI_and31 h0 h1]
  obtain ⟨n, rfl⟩ := Int.eq_ofNat_of_zero_le h0
  have hz : ∀ k, k < 32 → ((iI ((k : Nat) : Int)).toBitVec.smod 32).toNat = k := by decide
  apply Int32.toInt.inj
  rw [pk_shr (iI a) (iI ((n : Nat) : Int)) n (hz n (by omega)), iI_toInt ha, Int.shiftRight_eq_div_pow]
  have hp : (0 : Int) < 2 ^ n := Int.pow_pos (by decide)
  have e : ((2 ^ n : Nat) : Int) = 2 ^ n := by simp
  rw [e, show ((n : Nat) : Int).toNat = n from rfl, iI_toInt]
  constructor
  · have : -2147483648 * 2 ^ n ≤ a := by
      have h2 : (1 : Int) ≤ 2 ^ n := hp
      have h3 : (2147483648 : Int) * 1 ≤ 2147483648 * 2 ^ n := Int.mul_le_mul_of_nonneg_left h2 (by decide)
      have h4 : (-2147483648 : Int) * 2 ^ n = -(2147483648 * 2 ^ n) := Int.neg_mul _ _
      omega
    exact Int.le_ediv_of_mul_le hp this
  · by_cases hs : 0 ≤ a
    · have := Int.ediv_le_self (2 ^ n) hs
      omega
    · have := Int.ediv_neg_of_neg_of_pos (by omega : a < 0) hp
      omega
