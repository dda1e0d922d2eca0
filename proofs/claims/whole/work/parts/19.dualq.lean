theorem cOK.eq {S S0 : jMem} (h1 : S 1 = S0 1) (h2 : S 2 = S0 2) (h3 : S 3 = S0 3) (h4 : S 4 = S0 4) (h5 : S 5 = S0 5) (hk : cOK S0) : cOK S := by
  show sOK (S 1 4) (S 2) (S 3) (S 4) (S 5)
  rw [h1, h2, h3, h4, h5]; exact hk
/-- only this cell may have changed -/
def only (q : Nat) (S0 S : jMem) : Prop := ∀ k, k ≠ q → S k = S0 k
theorem only.rf {q : Nat} {S : jMem} : only q S S := fun _ _ => rfl
theorem only.up {q : Nat} {S0 S : jMem} (h : only q S0 S) (a v : Int) : only q S0 (up2 S q a v) := fun k hk => by rw [up2_k S a v hk]; exact h k hk
theorem only.tr {q : Nat} {S0 S1 S2 : jMem} (h : only q S0 S1) (h2 : only q S1 S2) : only q S0 S2 := fun k hk => (h2 k hk).trans (h k hk)
theorem only.ok {q : Nat} {S0 S : jMem} (h : only q S0 S) (hq : 5 < q) (hk : cOK S0) : cOK S := cOK.eq (h 1 (by omega)) (h 2 (by omega)) (h 3 (by omega)) (h 4 (by omega)) (h 5 (by omega)) hk
def tvI (S0 : jMem) (a n x : Int) (S : jMem) : Prop := only 27 S0 S ∧ (∀ i, (i < a * 441 ∨ (a + 1) * 441 ≤ i) → S 27 i = S0 27 i) ∧ (∀ n' x', 0 ≤ n' → n' ≤ S0 2 a / 2 * 2 → 0 ≤ x' → x' ≤ S0 2 a → (n' < n ∨ n' = n ∧ x' < x) → S 27 ((a * 21 + n') * 21 + x') = pworth (S0 2 a) n' x')
theorem tvI.put {S0 S : jMem} {a n x : Int} (h : tvI S0 a n x S) (hL : 1 ≤ S0 2 a ∧ S0 2 a ≤ 20) (ha : 0 ≤ a ∧ a < 3) (hn : 0 ≤ n ∧ n ≤ S0 2 a / 2 * 2) (hx : 0 ≤ x ∧ x ≤ S0 2 a) : tvI S0 a n (x + 1) (up2 S 27 ((a * 21 + n) * 21 + x) (pworth (S0 2 a) n x)) := by
  obtain ⟨h1, h2, h3⟩ := h
  refine ⟨h1.up _ _, fun i hi => ?_, fun n' x' a1 a2 a3 a4 a5 => ?_⟩
  · rw [up2_a _ _ _ (by omega)]; exact h2 i hi
  · by_cases c : n' = n ∧ x' = x
    · obtain ⟨rfl, rfl⟩ := c
      rw [up2_eq]
    · rw [up2_a _ _ _ (by omega)]
      exact h3 n' x' a1 a2 a3 a4 (by omega)
theorem tvI.next {S0 S : jMem} {a n x : Int} (h : tvI S0 a n x S) (hx : S0 2 a < x) : tvI S0 a (n + 1) 0 S := ⟨h.1, h.2.1, fun n' x' a1 a2 a3 a4 a5 => h.2.2 n' x' a1 a2 a3 a4 (by omega)⟩
/-- the values of an axis' functions are told -/
def vOK (S : jMem) (a : Int) : Prop := ∀ n x, 0 ≤ n → n ≤ S 2 a / 2 * 2 → 0 ≤ x → x ≤ S 2 a → S 27 ((a * 21 + n) * 21 + x) = pworth (S 2 a) n x
