/-! coordinates: sums of extents of other boxes -/
def reach (sid tb : Int → Int) (b a : Int) : Nat → Int → Prop
  | 0, v => v = 0
  | k + 1, v => reach sid tb b a k v ∨ ((k : Int) ≠ b ∧ ∃ t, (0 ≤ t ∧ t < 6) ∧ phas tb k t ∧ reach sid tb b a k (v - pext sid k t a))
/-- of turns with the same extents the first one -/
def pfirst (sid tb : Int → Int) (b t : Int) : Prop := phas tb b t ∧ ¬ anyB (fun u => phas tb b u ∧ psame sid b u t) t
theorem pcounts_iff {len sid tb : Int → Int} {b t : Int} : pcounts len sid tb b t ↔ pfirst sid tb b t ∧ pshort len sid b t := by
  constructor
  · rintro ⟨h1, h2, h3⟩
    exact ⟨⟨h1, fun ⟨u, u1, u2⟩ => h3 u u1.1 u1.2 u2⟩, h2⟩
  · rintro ⟨⟨h1, h2⟩, h3⟩
    exact ⟨h1, h3, fun u u1 u2 hq => h2 ⟨u, ⟨u1, u2⟩, hq⟩⟩
theorem ff_f {P : Int → Prop} {Q : Prop} {d u : Int} (hd : d = 1 ↔ Q ∧ ¬ anyB P u) (hu : 0 ≤ u) (h : ¬ d = 1 ∨ P u) : (0 : Int) = 1 ↔ Q ∧ ¬ anyB P (u + 1) := by
  rw [anyB_s hu]
  refine ⟨fun q => by omega, fun q => ?_⟩
  rcases h with h | h
  · exact absurd (hd.mpr ⟨q.1, fun x => q.2 (Or.inl x)⟩) h
  · exact absurd (Or.inr h) q.2
theorem ff_t {P : Int → Prop} {Q : Prop} {d u : Int} (hd : d = 1 ↔ Q ∧ ¬ anyB P u) (hu : 0 ≤ u) (h : d = 1) (hp : ¬ P u) : (1 : Int) = 1 ↔ Q ∧ ¬ anyB P (u + 1) := by
  rw [anyB_s hu]
  have := hd.mp h
  exact ⟨fun _ => ⟨this.1, fun q => q.elim this.2 hp⟩, fun _ => rfl⟩
theorem anyB_n {P : Int → Prop} : ¬ anyB P 0 := fun ⟨v, h1, h2⟩ => by omega
/-- how many coordinates a box has on an axis with a turn -/
noncomputable def pmany (n : Int) (len sid tb : Int → Int) (b t a : Int) : Int := isum (fun v => bb (reach sid tb b a n.toNat v)) 0 (len a - pext sid b t a + 1 - 0).toNat
