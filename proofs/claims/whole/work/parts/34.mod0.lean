/-! the model's own ways to the same numbers -/
def sd2 (t a : Int) : Int := if a = 0 then (if t = 0 then 12 else if t = 1 then 21 else if t = 2 then 102 else if t = 3 then 120 else if t = 4 then 201 else 210) / 100 else if a = 1 then (if t = 0 then 12 else if t = 1 then 21 else if t = 2 then 102 else if t = 3 then 120 else if t = 4 then 201 else 210) / 10 % 10 else (if t = 0 then 12 else if t = 1 then 21 else if t = 2 then 102 else if t = 3 then 120 else if t = 4 then 201 else 210) % 10
theorem sd2_all : ((List.range 6).all fun t => (List.range 3).all fun a => decide (sd2 (t : Nat) (a : Nat) = sd ((t : Nat) * 3 + (a : Nat)))) = true := by decide +kernel
theorem sd2_eq {t a : Int} (ht : 0 ≤ t ∧ t < 6) (ha : 0 ≤ a ∧ a < 3) : sd2 t a = sd (t * 3 + a) := by
  obtain ⟨x, rfl⟩ := Int.eq_ofNat_of_zero_le ht.1
  obtain ⟨y, rfl⟩ := Int.eq_ofNat_of_zero_le ha.1
  have := List.all_eq_true.mp (List.all_eq_true.mp sd2_all x (List.mem_range.mpr (by omega))) y (List.mem_range.mpr (by omega))
  exact of_decide_eq_true this
