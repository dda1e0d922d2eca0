/-- the reason: box after box goes without which it is proved yet -/
noncomputable def preason (P : Int → Prop) : Nat → Int → Int → Int
  | 0, _, left => left
  | k + 1, b, left => preason P k (b + 1) (@ite Int (P (zandn left (1 * 2 ^ b.toNat))) (Classical.propDecidable _) (zandn left (1 * 2 ^ b.toNat)) left)
theorem preason_t {P : Int → Prop} {b hi left : Int} (h : b < hi) (hp : P (zandn left (1 * 2 ^ b.toNat))) : preason P (hi - b).toNat b left = preason P (hi - (b + 1)).toNat (b + 1) (zandn left (1 * 2 ^ b.toNat)) := by
  have e : (hi - b).toNat = (hi - (b + 1)).toNat + 1 := by omega
  rw [e]
  exact congrArg (fun z => preason P (hi - (b + 1)).toNat (b + 1) z) (@if_pos _ (Classical.propDecidable _) hp _ _ _)
theorem preason_f {P : Int → Prop} {b hi left : Int} (h : b < hi) (hp : ¬ P (zandn left (1 * 2 ^ b.toNat))) : preason P (hi - b).toNat b left = preason P (hi - (b + 1)).toNat (b + 1) left := by
  have e : (hi - b).toNat = (hi - (b + 1)).toNat + 1 := by omega
  rw [e]
  exact congrArg (fun z => preason P (hi - (b + 1)).toNat (b + 1) z) (@if_neg _ (Classical.propDecidable _) hp _ _ _)
theorem preason_e {P : Int → Prop} {b hi left : Int} (h : hi ≤ b) : preason P (hi - b).toNat b left = left := by
  have e : (hi - b).toNat = 0 := by omega
  rw [e]; rfl
abbrev pprove (n : Int) (len sid tb : Int → Int) (n0 n1 n2 m : Int) : Prop := phas3 len n0 n1 n2 < pneed n len sid tb n0 n1 n2 m
abbrev pall (n : Int) : Int := 1 * 2 ^ n.toNat - 1
/-- function p gives each row at least as much of what it gives the length as n does -/
def pdom (S : jMem) (a p n : Int) : Prop := ∀ i, 0 ≤ i → i < S 29 (S 1 4) → pworth (S 2 a) n (S 28 (i * 3 + a)) * pworth (S 2 a) p (S 2 a) ≤ pworth (S 2 a) p (S 28 (i * 3 + a)) * pworth (S 2 a) n (S 2 a)
theorem row_at {S : jMem} (hk : cOK S) (h : dOK S) {i a : Int} (h0 : 0 ≤ i) (h1 : i < S 29 (S 1 4)) (ha : 0 ≤ a ∧ a < 3) : 0 ≤ S 28 (i * 3 + a) ∧ S 28 (i * 3 + a) ≤ S 2 a := by
  have r := row_len hk h h0 h1
  rcases (show a = 0 ∨ a = 1 ∨ a = 2 by omega) with rfl | rfl | rfl
  · exact r.1
  · exact r.2.1
  · exact r.2.2
theorem v_at {S : jMem} (h : dOK S) {a n x : Int} (ha : 0 ≤ a ∧ a < 3) (h1 : isFn S a n) (h2 : 0 ≤ x ∧ x ≤ S 2 a) : S 27 ((a * 21 + n) * 21 + x) = pworth (S 2 a) n x := by
  rcases (show a = 0 ∨ a = 1 ∨ a = 2 by omega) with rfl | rfl | rfl
  · exact h.1.1 n x h1.1 h1.2 h2.1 h2.2
  · exact h.1.2.1 n x h1.1 h1.2 h2.1 h2.2
  · exact h.1.2.2 n x h1.1 h1.2 h2.1 h2.2
theorem pall_in {n : Int} (h : 0 ≤ n ∧ n ≤ 8) : 0 ≤ pall n ∧ pall n ≤ 255 := by
  have := zpow_lt (n := n) (k := 9) h.1 (by omega)
  obtain ⟨x, rfl⟩ := Int.eq_ofNat_of_zero_le h.1
  have hz : ∀ k, k < 9 → (0 : Int) ≤ 1 * 2 ^ k - 1 ∧ (1 * 2 ^ k - 1 : Int) ≤ 255 := by decide
  exact hz x (by omega)
/-- the functions that are tried, after n of them: those that none ahead of them, tried, is as good as -/
def idI (S0 : jMem) (a n : Int) (S : jMem) : Prop := only 31 S0 S ∧ (∀ j, j ≠ a → S 31 j = S0 31 j) ∧ (0 ≤ S 31 a ∧ S 31 a < 2 ^ 21) ∧ (∀ j, 0 ≤ j → n ≤ j → ¬ zbit (S 31 a) j) ∧ ∀ j, 0 ≤ j → j < n → (zbit (S 31 a) j ↔ ¬ ∃ p, (0 ≤ p ∧ p < j) ∧ zbit (S 31 a) p ∧ pdom S0 a p j)
theorem idI.set {S0 S : jMem} {a n : Int} (h : idI S0 a n S) (hn : 0 ≤ n ∧ n < 21) (hq : ¬ ∃ p, (0 ≤ p ∧ p < n) ∧ zbit (S 31 a) p ∧ pdom S0 a p n) : idI S0 a (n + 1) (up2 S 31 a (zor (S 31 a) (1 * 2 ^ n.toNat))) := by
  obtain ⟨h1, h2, h3, h4, h5⟩ := h
  have zb : ∀ j, 0 ≤ j → (zbit (up2 S 31 a (zor (S 31 a) (1 * 2 ^ n.toNat)) 31 a) j ↔ zbit (S 31 a) j ∨ j = n) := fun j hj => by rw [up2_eq]; exact zbit_zor h3.1 hn.1 hj
  have hp := zpow_lt (n := n) (k := 21) hn.1 (by omega)
  refine ⟨h1.up _ _, fun j hj => by rw [up2_a _ _ _ hj]; exact h2 j hj, ?_, fun j hj hj2 => ?_, fun j hj hj2 => ?_⟩
  · rw [up2_eq]; exact ⟨zor_nn _ _, zor_lt h3.1 h3.2 hp.2⟩
  · rw [zb j hj]
    rintro (hc | hc)
    · exact h4 j hj (by omega) hc
    · omega
  · rw [zb j hj]
    have ex : (∃ p, (0 ≤ p ∧ p < j) ∧ zbit (up2 S 31 a (zor (S 31 a) (1 * 2 ^ n.toNat)) 31 a) p ∧ pdom S0 a p j) ↔ ∃ p, (0 ≤ p ∧ p < j) ∧ zbit (S 31 a) p ∧ pdom S0 a p j := by
      constructor
      · rintro ⟨p, p1, p2, p3⟩
        rcases (zb p p1.1).mp p2 with hc | hc
        · exact ⟨p, p1, hc, p3⟩
        · omega
      · rintro ⟨p, p1, p2, p3⟩
        exact ⟨p, p1, (zb p p1.1).mpr (Or.inl p2), p3⟩
    rw [ex]
    by_cases e : j = n
    · subst e
      exact ⟨fun _ => hq, fun _ => Or.inr rfl⟩
    · rw [← h5 j hj (by omega)]
      exact ⟨fun hc => hc.elim id (fun hc => absurd hc e), Or.inl⟩
theorem idI.skip {S0 S : jMem} {a n : Int} (h : idI S0 a n S) (hn : 0 ≤ n) (hq : ∃ p, (0 ≤ p ∧ p < n) ∧ zbit (S 31 a) p ∧ pdom S0 a p n) : idI S0 a (n + 1) S := by
  obtain ⟨h1, h2, h3, h4, h5⟩ := h
  refine ⟨h1, h2, h3, fun j hj hj2 => h4 j hj (by omega), fun j hj hj2 => ?_⟩
  by_cases e : j = n
  · subst e
    exact ⟨fun hc => absurd hc (h4 j hj (Int.le_refl _)), fun hc => absurd hq hc⟩
  · exact h5 j hj (by omega)
/-- what leaveOutIdle leaves: each function has one that is tried, as good as it, at it or ahead of it -/
def trOK (S : jMem) (a : Int) : Prop := (0 ≤ S 31 a ∧ S 31 a < 2 ^ 21) ∧ ∀ n, isFn S a n → zbit (S 31 a) n ∨ ∃ p, (0 ≤ p ∧ p < n) ∧ zbit (S 31 a) p ∧ pdom S a p n
theorem zbit_0 (j : Int) : ¬ zbit 0 j := by
  intro h
  have h2 : (0 : Int) / 2 ^ j.toNat % 2 = 1 := h
  rw [Int.zero_ediv] at h2
  omega
