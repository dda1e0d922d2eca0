/-! the JDK's count of bits, byte by byte -/
def bq1 (c : Nat) : Nat := c - (c / 2 &&& 85)
def bq2 (d : Nat) : Nat := (d &&& 51) + (d / 4 &&& 51)
def bq3 (e : Nat) : Nat := (e + e / 16) &&& 15
def bsum (c : Nat) : Nat := c % 2 + c / 2 % 2 + c / 4 % 2 + c / 8 % 2 + c / 16 % 2 + c / 32 % 2 + c / 64 % 2 + c / 128 % 2
theorem bq_all : ((List.range 256).all fun c => decide ((c / 2 + 128 &&& 85) = (c / 2 &&& 85)) && decide (c / 2 &&& 85 ≤ c) && decide (bq1 c < 256) && (List.range 4).all (fun k => decide ((bq1 c / 4 + 64 * k &&& 51) = (bq1 c / 4 &&& 51))) && decide (bq2 (bq1 c) < 103) && (List.range 16).all (fun k => decide ((bq2 (bq1 c) + bq2 (bq1 c) / 16 + 16 * k &&& 15) = bq3 (bq2 (bq1 c)))) && decide (bq2 (bq1 c) + bq2 (bq1 c) / 16 < 111) && decide (bq2 (bq1 c) % 16 ≤ 4) && decide (bq3 (bq2 (bq1 c)) = bsum c) && decide (bsum c ≤ 8)) = true := by decide +kernel
theorem bq_of {c : Nat} (hc : c < 256) : ((c / 2 + 128 &&& 85) = (c / 2 &&& 85)) ∧ (c / 2 &&& 85 ≤ c) ∧ bq1 c < 256 ∧ (∀ k, k < 4 → (bq1 c / 4 + 64 * k &&& 51) = (bq1 c / 4 &&& 51)) ∧ bq2 (bq1 c) < 103 ∧ (∀ k, k < 16 → (bq2 (bq1 c) + bq2 (bq1 c) / 16 + 16 * k &&& 15) = bq3 (bq2 (bq1 c))) ∧ bq2 (bq1 c) + bq2 (bq1 c) / 16 < 111 ∧ bq2 (bq1 c) % 16 ≤ 4 ∧ bq3 (bq2 (bq1 c)) = bsum c ∧ bsum c ≤ 8 := by
  have h := List.all_eq_true.mp bq_all c (List.mem_range.mpr hc)
  simp only [Bool.and_eq_true, decide_eq_true_eq, List.all_eq_true, List.mem_range] at h
  obtain ⟨⟨⟨⟨⟨⟨⟨⟨⟨h1, h2⟩, h3⟩, h4⟩, h5⟩, h6⟩, h7⟩, h8⟩, h9⟩, h10⟩ := h
  exact ⟨h1, h2, h3, h4, h5, h6, h7, h8, h9, h10⟩
theorem and_step {a m y M : Nat} (ha : a < 256) (hm : m < 256) : (a + 256 * y) &&& (m + 256 * M) = (a &&& m) + 256 * (y &&& M) := by
  apply Nat.eq_of_testBit_eq
  intro i
  have h1 : ∀ u v : Nat, u < 256 → (u + 256 * v).testBit i = if i < 8 then u.testBit i else v.testBit (i - 8) := fun u v hu => by
    rw [Nat.add_comm, show 256 * v = 2 ^ 8 * v from rfl, Nat.testBit_two_pow_mul_add _ hu]
  rw [Nat.testBit_and, h1 a y ha, h1 m M hm, h1 (a &&& m) (y &&& M) (Nat.lt_of_le_of_lt Nat.and_le_left ha), Nat.testBit_and, Nat.testBit_and]
  by_cases c : i < 8
  · rw [if_pos c, if_pos c, if_pos c]
  · rw [if_neg c, if_neg c, if_neg c]
theorem and_3 {a b c m N : Nat} (ha : a < 256) (hb : b < 256) (hc : c < 256) (hm : m < 256) (hN : N = m + 256 * (m + 256 * (m + 256 * m))) : (a + 256 * (b + 256 * c)) &&& N = (a &&& m) + 256 * ((b &&& m) + 256 * (c &&& m)) := by
  have h := and_step (y := 0) (M := m) hc hm
  rw [Nat.mul_zero, Nat.add_zero, Nat.zero_and, Nat.mul_zero, Nat.add_zero] at h
  rw [hN, and_step ha hm, and_step hb hm, h]
theorem bitc_1 {a b c : Nat} (ha : a < 256) (hb : b < 256) (hc : c < 256) : (a + 256 * (b + 256 * c)) - ((a + 256 * (b + 256 * c)) / 2 &&& 1431655765) = bq1 a + 256 * (bq1 b + 256 * bq1 c) := by
  have A := bq_of ha
  have B := bq_of hb
  have D := bq_of hc
  have e : (a + 256 * (b + 256 * c)) / 2 = (a / 2 + 128 * (b % 2)) + 256 * ((b / 2 + 128 * (c % 2)) + 256 * (c / 2)) := by omega
  rw [e, and_3 (m := 85) (by omega) (by omega) (by omega) (by omega) rfl]
  have ea : (a / 2 + 128 * (b % 2) &&& 85) = (a / 2 &&& 85) := by
    rcases Nat.mod_two_eq_zero_or_one b with h | h
    · rw [h]; rfl
    · rw [h]; exact A.1
  have eb : (b / 2 + 128 * (c % 2) &&& 85) = (b / 2 &&& 85) := by
    rcases Nat.mod_two_eq_zero_or_one c with h | h
    · rw [h]; rfl
    · rw [h]; exact B.1
  rw [ea, eb]
  unfold bq1
  have := A.2.1
  have := B.2.1
  have := D.2.1
  omega
theorem bitc_2 {a b c : Nat} (ha : a < 256) (hb : b < 256) (hc : c < 256) : ((bq1 a + 256 * (bq1 b + 256 * bq1 c)) &&& 858993459) + ((bq1 a + 256 * (bq1 b + 256 * bq1 c)) / 4 &&& 858993459) = bq2 (bq1 a) + 256 * (bq2 (bq1 b) + 256 * bq2 (bq1 c)) := by
  have A := bq_of ha
  have B := bq_of hb
  have D := bq_of hc
  have a1 := A.2.2.1
  have b1 := B.2.2.1
  have c1 := D.2.2.1
  have e : (bq1 a + 256 * (bq1 b + 256 * bq1 c)) / 4 = (bq1 a / 4 + 64 * (bq1 b % 4)) + 256 * ((bq1 b / 4 + 64 * (bq1 c % 4)) + 256 * (bq1 c / 4)) := by omega
  rw [e, and_3 (m := 51) a1 b1 c1 (by omega) rfl, and_3 (m := 51) (by omega) (by omega) (by omega) (by omega) rfl, A.2.2.2.1 _ (Nat.mod_lt _ (by decide)), B.2.2.2.1 _ (Nat.mod_lt _ (by decide))]
  unfold bq2
  omega
theorem bitc_3 {a b c : Nat} (ha : a < 256) (hb : b < 256) (hc : c < 256) : ((bq2 (bq1 a) + 256 * (bq2 (bq1 b) + 256 * bq2 (bq1 c))) + (bq2 (bq1 a) + 256 * (bq2 (bq1 b) + 256 * bq2 (bq1 c))) / 16) &&& 252645135 = bsum a + 256 * (bsum b + 256 * bsum c) := by
  obtain ⟨-, -, -, -, a5, a6, a7, a8, a9, -⟩ := bq_of ha
  obtain ⟨-, -, -, -, b5, b6, b7, b8, b9, -⟩ := bq_of hb
  obtain ⟨-, -, -, -, c5, c6, c7, c8, c9, -⟩ := bq_of hc
  have e : (bq2 (bq1 a) + 256 * (bq2 (bq1 b) + 256 * bq2 (bq1 c))) + (bq2 (bq1 a) + 256 * (bq2 (bq1 b) + 256 * bq2 (bq1 c))) / 16 = (bq2 (bq1 a) + bq2 (bq1 a) / 16 + 16 * (bq2 (bq1 b) % 16)) + 256 * ((bq2 (bq1 b) + bq2 (bq1 b) / 16 + 16 * (bq2 (bq1 c) % 16)) + 256 * (bq2 (bq1 c) + bq2 (bq1 c) / 16 + 16 * 0)) := by omega
  rw [e, and_3 (m := 15) (by omega) (by omega) (by omega) (by omega) rfl, a6 _ (Nat.mod_lt _ (by decide)), b6 _ (Nat.mod_lt _ (by decide)), c6 0 (by decide), a9, b9, c9]
theorem zand_c (x y : Nat) : zand (x : Int) (y : Int) = ((x &&& y : Nat) : Int) := rfl
def bsI (x : Int) : Int := x / 1 % 2 + x / 2 % 2 + x / 4 % 2 + x / 8 % 2 + x / 16 % 2 + x / 32 % 2 + x / 64 % 2 + x / 128 % 2
theorem pcnt_8 (x : Int) : pcnt (zbit x) 8 = bsI x := by
  unfold pcnt bsI
  rw [show (8 : Int).toNat = 8 from rfl]
  have e : (fun u => bb (zbit x u)) = fun u : Int => x / 2 ^ u.toNat % 2 := funext (fun u => bb_zbit x u)
  rw [e]
  show x / 1 % 2 + (x / 2 % 2 + (x / 4 % 2 + (x / 8 % 2 + (x / 16 % 2 + (x / 32 % 2 + (x / 64 % 2 + (x / 128 % 2 + 0))))))) = _
  generalize x / 1 % 2 = a0
  generalize x / 2 % 2 = a1
  generalize x / 4 % 2 = a2
  generalize x / 8 % 2 = a3
  generalize x / 16 % 2 = a4
  generalize x / 32 % 2 = a5
  generalize x / 64 % 2 = a6
  generalize x / 128 % 2 = a7
  omega
theorem zbit_sh {x j : Int} (hj : 0 ≤ j) (k : Nat) : zbit x ((k : Int) + j) ↔ zbit (x / 2 ^ k) j := by
  show x / 2 ^ ((k : Int) + j).toNat % 2 = 1 ↔ x / 2 ^ k / 2 ^ j.toNat % 2 = 1
  rw [Int.ediv_ediv_of_nonneg (Int.le_of_lt (Int.pow_pos (by decide))), show ((k : Int) + j).toNat = k + j.toNat by omega, Int.pow_add]
theorem zcnt_24 (x : Int) : zcnt x = bsI x + bsI (x / 256) + bsI (x / 65536) := by
  unfold zcnt
  have h1 := pcnt_split (zbit x) (a := 8) (by omega) 16
  have h2 := pcnt_split (zbit (x / 256)) (a := 8) (by omega) 8
  have e1 : pcnt (fun j => zbit x (8 + j)) 16 = pcnt (zbit (x / 256)) 16 := pcnt_congr (fun u u1 u2 => zbit_sh u1 8)
  have e2 : pcnt (fun j => zbit (x / 256) (8 + j)) 8 = pcnt (zbit (x / 256 / 256)) 8 := pcnt_congr (fun u u1 u2 => zbit_sh u1 8)
  have e3 : x / 256 / 256 = x / 65536 := by omega
  rw [show (8 : Int) + ((16 : Nat) : Int) = 24 from rfl, show ((16 : Nat) : Int) = 16 from rfl, e1] at h1
  rw [show (8 : Int) + ((8 : Nat) : Int) = 16 from rfl, show ((8 : Nat) : Int) = 8 from rfl, e2, e3] at h2
  rw [h1, h2, pcnt_8, pcnt_8, pcnt_8, Int.add_assoc]
theorem bsI_low (a y : Int) : bsI (a + 256 * y) = bsI a := by
  unfold bsI
  have h1 : (a + 256 * y) / 1 % 2 = a / 1 % 2 := by omega
  have h2 : (a + 256 * y) / 2 % 2 = a / 2 % 2 := by omega
  have h4 : (a + 256 * y) / 4 % 2 = a / 4 % 2 := by omega
  have h8 : (a + 256 * y) / 8 % 2 = a / 8 % 2 := by omega
  have h16 : (a + 256 * y) / 16 % 2 = a / 16 % 2 := by omega
  have h32 : (a + 256 * y) / 32 % 2 = a / 32 % 2 := by omega
  have h64 : (a + 256 * y) / 64 % 2 = a / 64 % 2 := by omega
  have h128 : (a + 256 * y) / 128 % 2 = a / 128 % 2 := by omega
  rw [h1, h2, h4, h8, h16, h32, h64, h128]
theorem bsI_n (a : Nat) : bsI (a : Int) = ((bsum a : Nat) : Int) := by
  unfold bsI bsum
  rw [Int.ediv_one]
  rfl
theorem zcnt_b {a b c : Nat} (ha : a < 256) (hb : b < 256) (hc : c < 256) : zcnt ((a + 256 * (b + 256 * c) : Nat) : Int) = ((bsum a + bsum b + bsum c : Nat) : Int) := by
  have a0 : (((a + 256 * (b + 256 * c) : Nat) : Int)) = (a : Int) + 256 * ((b : Int) + 256 * (c : Int)) := by omega
  have h1 : ((a : Int) + 256 * ((b : Int) + 256 * (c : Int))) / 256 = (b : Int) + 256 * (c : Int) := by omega
  have h2 : ((a : Int) + 256 * ((b : Int) + 256 * (c : Int))) / 65536 = (c : Int) := by omega
  rw [a0, zcnt_24, h1, h2, bsI_low, bsI_low, bsI_n, bsI_n, bsI_n]
  omega
/-- the whole of it -/
theorem bitc {x a1 a2 a3 a4 a5 : Int} (hx : 0 ≤ x ∧ x < 16777216) (h1 : a1 = x - zand (x / 2 ^ (1 : Int).toNat) 1431655765) (h2 : a2 = zand a1 858993459 + zand (a1 / 2 ^ (2 : Int).toNat) 858993459) (h3 : a3 = zand (a2 + a2 / 2 ^ (4 : Int).toNat) 252645135) (h4 : a4 = a3 + a3 / 2 ^ (8 : Int).toNat) (h5 : a5 = a4 + a4 / 2 ^ (16 : Int).toNat) : (0 ≤ a1 ∧ a1 < 16777216) ∧ (0 ≤ a2 ∧ a2 < 16777216) ∧ (0 ≤ a3 ∧ a3 < 16777216) ∧ (0 ≤ a4 ∧ a4 < 33554432) ∧ (0 ≤ a5 ∧ a5 < 67108864) ∧ zcnt x = zand a5 63 := by
  obtain ⟨X, rfl⟩ := Int.eq_ofNat_of_zero_le hx.1
  obtain ⟨a, b, c, ha, hb, hc, e⟩ : ∃ a b c, a < 256 ∧ b < 256 ∧ c < 256 ∧ X = a + 256 * (b + 256 * c) := ⟨X % 256, X / 256 % 256, X / 65536, by omega, by omega, by omega, by omega⟩
  subst e
  have A := (bq_of ha).2.2
  have B := (bq_of hb).2.2
  have D := (bq_of hc).2.2
  have q1 : a1 = ((bq1 a + 256 * (bq1 b + 256 * bq1 c) : Nat) : Int) := by
    rw [h1, ← bitc_1 ha hb hc, show ((a + 256 * (b + 256 * c) : Nat) : Int) / 2 ^ (1 : Int).toNat = (((a + 256 * (b + 256 * c)) / 2 : Nat) : Int) from rfl, show (1431655765 : Int) = ((1431655765 : Nat) : Int) from rfl, zand_c]
    have : ((a + 256 * (b + 256 * c)) / 2 &&& 1431655765) ≤ (a + 256 * (b + 256 * c)) / 2 := Nat.and_le_left
    omega
  have q2 : a2 = ((bq2 (bq1 a) + 256 * (bq2 (bq1 b) + 256 * bq2 (bq1 c)) : Nat) : Int) := by
    rw [h2, q1, ← bitc_2 ha hb hc, show ((bq1 a + 256 * (bq1 b + 256 * bq1 c) : Nat) : Int) / 2 ^ (2 : Int).toNat = (((bq1 a + 256 * (bq1 b + 256 * bq1 c)) / 4 : Nat) : Int) from rfl, show (858993459 : Int) = ((858993459 : Nat) : Int) from rfl, zand_c, zand_c]
    omega
  have q3 : a3 = ((bsum a + 256 * (bsum b + 256 * bsum c) : Nat) : Int) := by
    rw [h3, q2, ← bitc_3 ha hb hc, show ((bq2 (bq1 a) + 256 * (bq2 (bq1 b) + 256 * bq2 (bq1 c)) : Nat) : Int) / 2 ^ (4 : Int).toNat = (((bq2 (bq1 a) + 256 * (bq2 (bq1 b) + 256 * bq2 (bq1 c))) / 16 : Nat) : Int) from rfl, show (252645135 : Int) = ((252645135 : Nat) : Int) from rfl, ← Int.natCast_add, zand_c]
  have s1 := A.2.2.2.2.2.2.2
  have s2 := B.2.2.2.2.2.2.2
  have s3 := D.2.2.2.2.2.2.2
  have t1 := A.1
  have t2 := B.1
  have t3 := D.1
  have u1 := A.2.2.1
  have u2 := B.2.2.1
  have u3 := D.2.2.1
  rw [show (2 : Int) ^ (8 : Int).toNat = 256 from rfl] at h4
  rw [show (2 : Int) ^ (16 : Int).toNat = 65536 from rfl] at h5
  have b1 : 0 ≤ a1 ∧ a1 < 16777216 := by clear h1 h2 h3 h4 h5 q2 q3; omega
  have b2 : 0 ≤ a2 ∧ a2 < 16777216 := by clear h1 h2 h3 h4 h5 q1 q3; omega
  rw [zcnt_b ha hb hc]
  generalize bsum a = p at *
  generalize bsum b = q at *
  generalize bsum c = r at *
  clear h1 h2 h3 q1 q2 A B D
  have k4 : a3 / 256 = (q : Int) + 256 * (r : Int) := by omega
  have k5 : a4 = (p + q : Int) + 256 * (q + r : Int) + 65536 * (r : Int) := by omega
  have k6 : a4 / 65536 = (r : Int) := by omega
  have k7 : a5 = ((p + q + r : Nat) : Int) + 256 * (q + r : Int) + 65536 * (r : Int) := by omega
  refine ⟨b1, b2, by omega, by omega, by omega, ?_⟩
  unfold zand
  have e6 : a5.toNat &&& (63 : Int).toNat = a5.toNat % 64 := Nat.and_two_pow_sub_one_eq_mod a5.toNat 6
  rw [e6]
  omega
theorem iI_ushr {a b : Int} (ha : 0 ≤ a ∧ a ≤ 2147483647) (h0 : 0 ≤ b) (h1 : b < 32) : ((iI a).toUInt32 >>> ((iI b).toUInt32 &&& Int32.toUInt32 31)).toInt32 = iI (a / 2 ^ b.toNat) := by
  obtain ⟨n, rfl⟩ := Int.eq_ofNat_of_zero_le h0
  obtain ⟨m, rfl⟩ := Int.eq_ofNat_of_zero_le ha.1
  apply Int32.toBitVec.inj
  have e1 : ((m : Int) / 2 ^ (n : Int).toNat) = ((m / 2 ^ n : Nat) : Int) := by simp
  rw [e1, iI_bvn]
  show ((iI (m : Int)).toUInt32 >>> ((iI (n : Int)).toUInt32 &&& Int32.toUInt32 31)).toBitVec = _
  rw [UInt32.toBitVec_shiftRight]
  have e2 : (iI (m : Int)).toUInt32.toBitVec = BitVec.ofNat 32 m := iI_bvn m
  rw [e2]
  have e3 : ∀ k, k < 32 → (((iI ((k : Nat) : Int)).toUInt32 &&& Int32.toUInt32 31).toBitVec % 32) = BitVec.ofNat 32 k := by decide
  rw [e3 n (by omega)]
  apply BitVec.eq_of_toNat_eq
  show (BitVec.ofNat 32 m >>> (BitVec.ofNat 32 n).toNat).toNat = _
  rw [BitVec.toNat_ushiftRight, BitVec.toNat_ofNat, BitVec.toNat_ofNat, BitVec.toNat_ofNat, Nat.mod_eq_of_lt (by omega : n < 2 ^ 32), Nat.mod_eq_of_lt (by omega : m < 2 ^ 32), Nat.shiftRight_eq_div_pow, Nat.mod_eq_of_lt (Nat.lt_of_le_of_lt (Nat.div_le_self _ _) (by omega))]
