/-! reading a memory that has been written -/
theorem rd_k {S : jMem} {k k' : Nat} {a w i v : Int} (h : k' ≠ k) (e : S k' i = v) : up2 S k a w k' i = v := by rw [up2_k S a w h]; exact e
theorem rd_a {S : jMem} {k : Nat} {a w i v : Int} (h : i ≠ a) (e : S k i = v) : up2 S k a w k i = v := by rw [up2_a S k w h]; exact e
theorem rd_e {S : jMem} {k : Nat} {a w i : Int} (h : i = a) : up2 S k a w k i = w := by rw [h, up2_eq]
theorem J_topl {E : jEnv} {G : jG} {pc : Nat} {lv : List (Nat × Value)} {st : List Value} {S : jMem} {a b : Int} (h : a = b) (k : J E G pc lv (.long (iL b) :: st) S) : J E G pc lv (.long (iL a) :: st) S := h ▸ k
theorem zpow_in {b : Int} (h0 : 0 ≤ b) (h1 : b < 8) : (1 : Int) ≤ 1 * 2 ^ b.toNat ∧ 1 * 2 ^ b.toNat ≤ (128 : Int) := by
  obtain ⟨n, rfl⟩ := Int.eq_ofNat_of_zero_le h0
  have : ∀ k, k < 8 → (1 : Int) ≤ 1 * 2 ^ k ∧ 1 * 2 ^ k ≤ (128 : Int) := by decide
  exact this n (by omega)
/-- a box is laid -/
def putS (S : jMem) (b t x y z : Int) : jMem := up2 (up2 (up2 (up2 (up2 (up2 (up2 (up2 S 19 b t) 20 (b * 3) x) 20 (b * 3 + 1) y) 20 (b * 3 + 2) z) 21 (b * 3 + 0) (x + pext (S 3) b t 0)) 21 (b * 3 + 1) (y + pext (S 3) b t 1)) 21 (b * 3 + 2) (z + pext (S 3) b t 2)) 18 4 (zor (S 18 4) (1 * 2 ^ b.toNat))
