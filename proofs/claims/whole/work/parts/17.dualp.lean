/-! dual functions -/
def pworth (L n x : Int) : Int :=
  if n = 0 then x else if n ≤ L / 2 then (if L - n < x then L else if x < n then 0 else x)
  else if 2 * x < L then 2 * (x / (n - L / 2)) else if 2 * x = L then L / (n - L / 2) else 2 * (L / (n - L / 2) - (L - x) / (n - L / 2))
def pworth_ok (L n x : Nat) : Bool := !(decide (1 ≤ L) && decide (n ≤ L / 2 * 2) && decide (x ≤ L)) || (decide (0 ≤ pworth L n x) && decide (pworth L n x ≤ pworth L n L) && decide (1 ≤ pworth L n L) && decide (pworth L n L ≤ 40))
theorem pworth_all0 : ((List.range 21).all fun L => (List.range 21).all fun n => (List.range 21).all fun x => pworth_ok L n x) = true := by decide +kernel
theorem pworth_all (L : Nat) (hL : L < 21) (n : Nat) (hn : n < 21) (x : Nat) (hx : x < 21) (h : 1 ≤ L ∧ n ≤ L / 2 * 2 ∧ x ≤ L) : 0 ≤ pworth L n x ∧ pworth L n x ≤ pworth L n L ∧ 1 ≤ pworth L n L ∧ pworth L n L ≤ 40 := by
  have h1 := List.all_eq_true.mp (List.all_eq_true.mp (List.all_eq_true.mp pworth_all0 L (List.mem_range.mpr hL)) n (List.mem_range.mpr hn)) x (List.mem_range.mpr hx)
  unfold pworth_ok at h1
  simp only [Bool.or_eq_true, Bool.and_eq_true, Bool.not_eq_true', Bool.and_eq_false_iff, decide_eq_true_eq, decide_eq_false_iff_not] at h1
  rcases h1 with h1 | h1
  · omega
  · exact ⟨h1.1.1.1, h1.1.1.2, h1.1.2, h1.2⟩
theorem pworth_in {L n x : Int} (hL : 1 ≤ L ∧ L ≤ 20) (hn : 0 ≤ n ∧ n ≤ L / 2 * 2) (hx : 0 ≤ x ∧ x ≤ L) : 0 ≤ pworth L n x ∧ pworth L n x ≤ pworth L n L ∧ 1 ≤ pworth L n L ∧ pworth L n L ≤ 40 := by
  obtain ⟨l, rfl⟩ := Int.eq_ofNat_of_zero_le (show 0 ≤ L by omega)
  obtain ⟨m, rfl⟩ := Int.eq_ofNat_of_zero_le hn.1
  obtain ⟨y, rfl⟩ := Int.eq_ofNat_of_zero_le hx.1
  exact pworth_all l (by omega) m (by omega) y (by omega) ⟨by omega, by omega, by omega⟩
