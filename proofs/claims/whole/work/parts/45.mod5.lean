theorem only.mok {S0 S : jMem} {q : Nat} (h : only q S0 S) (hq : 4 < q) (hk : mOK S0) : mOK S := by
  show sOK (S 0 1) (S 1) (S 2) (S 4) (S 3)
  rw [h 0 (by omega), h 1 (by omega), h 2 (by omega), h 3 (by omega), h 4 (by omega)]; exact hk
theorem bb_of {P : Prop} {d : Int} (h : d = 0 ∨ d = 1) (h2 : d = 1 ↔ P) : d = bb P := by
  rcases h with rfl | rfl
  · exact (bb_f (fun q => by have := h2.mpr q; omega)).symm
  · exact (bb_t (h2.mp rfl)).symm
/-- the model's sums of a box on an axis, boxes below k -/
def sumI (S0 : jMem) (b a : Int) (k : Nat) (S : jMem) : Prop := only 11 S0 S ∧ (∀ i, (i < 142 * (3 * b + a) ∨ 142 * (3 * b + a) + 142 ≤ i) → S 11 i = S0 11 i) ∧ ∀ u, 0 ≤ u → u < 142 → S 11 (142 * (3 * b + a) + u) = bb (reach (S0 2) (S0 4) b a k u)
/-- the same, and of those above v also box k -/
def sumV (S0 : jMem) (b a : Int) (k : Nat) (v : Int) (S : jMem) : Prop := only 11 S0 S ∧ (∀ i, (i < 142 * (3 * b + a) ∨ 142 * (3 * b + a) + 142 ≤ i) → S 11 i = S0 11 i) ∧ (∀ u, 0 ≤ u → u ≤ v → u < 142 → S 11 (142 * (3 * b + a) + u) = bb (reach (S0 2) (S0 4) b a k u)) ∧ ∀ u, v < u → u < 142 → 0 ≤ u → S 11 (142 * (3 * b + a) + u) = bb (reach (S0 2) (S0 4) b a (k + 1) u)
theorem sumI.v {S0 S : jMem} {b a : Int} {k : Nat} (h : sumI S0 b a k S) : sumV S0 b a k 141 S := ⟨h.1, h.2.1, fun u h1 _ h3 => h.2.2 u h1 h3, fun u h1 h2 => by omega⟩
theorem sumV.i {S0 S : jMem} {b a v : Int} {k : Nat} (h : sumV S0 b a k v S) (hv : v < 0) : sumI S0 b a (k + 1) S := ⟨h.1, h.2.1, fun u h1 h2 => h.2.2.2 u (by omega) h2 h1⟩
theorem sumI.skip {S0 S : jMem} {b a : Int} {k : Nat} (h : sumI S0 b a k S) (hb : (k : Int) = b) : sumI S0 b a (k + 1) S := by
  refine ⟨h.1, h.2.1, fun u h1 h2 => (h.2.2 u h1 h2).trans (bb_c ?_)⟩
  exact ⟨Or.inl, fun q => q.elim id (fun q => absurd hb q.1)⟩
theorem sumV.put {S0 S : jMem} {b a v d : Int} {k : Nat} (h : sumV S0 b a k v S) (hv : 0 ≤ v ∧ v < 142) (hd : d = bb (reach (S0 2) (S0 4) b a (k + 1) v)) : sumV S0 b a k (v - 1) (up2 S 11 (142 * (3 * b + a) + v) d) := by
  obtain ⟨h1, h2, h3, h4⟩ := h
  refine ⟨h1.up _ _, fun i hi => ?_, fun u a1 a2 a3 => ?_, fun u a1 a2 a3 => ?_⟩
  · rw [up2_a _ _ _ (by omega)]; exact h2 i hi
  · rw [up2_a _ _ _ (by omega)]; exact h3 u a1 (by omega) a3
  · by_cases e : u = v
    · subst e; rw [up2_eq]; exact hd
    · rw [up2_a _ _ _ (by omega)]; exact h4 u (by omega) a2 a3
/-- one way more, turn by turn -/
theorem rt_1 {P : Int → Prop} {Q : Prop} {d u : Int} (hd : d = 1 ↔ Q ∨ anyB P u) (hu : 0 ≤ u) (h : d = 1 ∨ P u) : (1 : Int) = 1 ↔ Q ∨ anyB P (u + 1) := by
  rw [anyB_s hu]
  refine ⟨fun _ => ?_, fun _ => rfl⟩
  rcases h with h | h
  · exact (hd.mp h).elim Or.inl (fun q => Or.inr (Or.inl q))
  · exact Or.inr (Or.inr h)
theorem rt_0 {P : Int → Prop} {Q : Prop} {d u : Int} (hd : d = 1 ↔ Q ∨ anyB P u) (hu : 0 ≤ u) (h0 : ¬ d = 1) (hp : ¬ P u) : (0 : Int) = 1 ↔ Q ∨ anyB P (u + 1) := by
  rw [anyB_s hu]
  refine ⟨fun q => by omega, fun q => ?_⟩
  rcases q with q | q | q
  · exact absurd (hd.mpr (Or.inl q)) h0
  · exact absurd (hd.mpr (Or.inr q)) h0
  · exact absurd q hp
theorem reach_s {sid tb : Int → Int} {b a k v : Int} (hk : 0 ≤ k) (hne : k ≠ b) : reach sid tb b a (k.toNat + 1) v ↔ reach sid tb b a k.toNat v ∨ anyB (fun t => phas tb k t ∧ reach sid tb b a k.toNat (v - pext sid k t a)) 6 := by
  have e : ((k.toNat : Nat) : Int) = k := Int.toNat_of_nonneg hk
  show _ ∨ (((k.toNat : Nat) : Int) ≠ b ∧ _) ↔ _
  rw [e]
  constructor
  · rintro (h | ⟨-, t, t1, t2, t3⟩)
    · exact Or.inl h
    · exact Or.inr ⟨t, t1, t2, t3⟩
  · rintro (h | ⟨t, t1, t2, t3⟩)
    · exact Or.inl h
    · exact Or.inr ⟨hne, t, t1, t2, t3⟩
theorem reach_neg {n : Int} {len sid tb wt : Int → Int} (hk : sOK n len sid tb wt) {b a : Int} : ∀ (k : Nat) (v : Int), (k : Int) ≤ 8 → v < 0 → ¬ reach sid tb b a k v
  | 0, v, _, hv, h => by
    have h2 : v = 0 := h
    omega
  | k + 1, v, h8, hv, h => by
    rcases h with h | ⟨-, t, t1, t2, t3⟩
    · exact reach_neg hk k v (by omega) hv h
    · have := pext_in hk (b := k) (t := t) (a := a) (by omega) (by omega)
      exact reach_neg hk k _ (by omega) (by omega) t3
