theorem mabove_in {S : jMem} (hk : mOK S) (hl : mlOK S) {x : Int} (hx : 0 ≤ x ∧ x < 3) : 0 ≤ mabove S x ∧ mabove S x ≤ 8 * 60000 := by
  have hn := hk.1
  have := isum_in (f := fun b => bb (0 < S 5 b) * (S 3 b * (S 6 (b * 3 + x) + men S (b * 3 + x)))) (B := 60000) (S 0 1 - 0).toNat 0 (fun j h1 h2 => ?_)
  · unfold mabove
    have e : (((S 0 1 - 0).toNat : Nat) : Int) * 60000 ≤ 8 * 60000 := by omega
    omega
  · have a1 := hl.2.1 (j * 3 + x) (by omega) (by omega)
    have a2 := men_in hk hl (b := j) (x := x) (by omega) hx
    have a3 := hk.2.2.2.2.2.2 j (by omega) (by omega)
    have a4 := mul_in (y := S 6 (j * 3 + x) + men S (j * 3 + x)) (B := 60) a3 (by omega)
    have a5 := mul_in (bb_in (0 < S 5 j)) a4
    omega
theorem mbelow_in {S : jMem} (hk : mOK S) : 0 ≤ mbelow S ∧ mbelow S ≤ 8 * 2000 := by
  have hn := hk.1
  have := isum_in (f := fun b => bb (0 < S 5 b) * (2 * S 3 b)) (B := 2000) (S 0 1 - 0).toNat 0 (fun j h1 h2 => ?_)
  · unfold mbelow
    have e : (((S 0 1 - 0).toNat : Nat) : Int) * 2000 ≤ 8 * 2000 := by omega
    omega
  · have a3 := hk.2.2.2.2.2.2 j (by omega) (by omega)
    have a5 := mul_in (y := 2 * S 3 j) (B := 2000) (bb_in (0 < S 5 j)) (by omega)
    omega
def layM (S : jMem) (b t x y z : Int) : jMem := up2 (up2 (up2 (up2 S 5 b (t + 1)) 6 (3 * b) x) 6 (3 * b + 1) y) 6 (3 * b + 2) z
theorem layM_ok {S : jMem} {b t x y z : Int} (hk : mOK S) (hl : mlOK S) (h : pplace (S 0 1) (S 1) (S 2) (S 4) b t x y z) : mlOK (layM S b t x y z) := by
  have l0 := hk.2.1 0 (by omega) (by omega)
  have l1 := hk.2.1 1 (by omega) (by omega)
  have l2 := hk.2.1 2 (by omega) (by omega)
  have hn := hk.1
  have e0 := pext_in hk (b := b) (t := t) (a := 0) (by omega) (by omega)
  have e1 := pext_in hk (b := b) (t := t) (a := 1) (by omega) (by omega)
  have e2 := pext_in hk (b := b) (t := t) (a := 2) (by omega) (by omega)
  obtain ⟨h1, h2, h3, h4, h5, h6⟩ := h
  unfold layM
  refine ⟨fun c c1 c2 => ?_, fun i i1 i2 => ?_, fun c c1 c2 => ?_⟩
  · rw [up2_k _ _ _ (by decide), up2_k _ _ _ (by decide), up2_k _ _ _ (by decide)]
    by_cases e : c = b
    · subst e; rw [up2_eq]; omega
    · rw [up2_a _ _ _ e]; exact hl.1 c c1 c2
  · by_cases q2 : i = 3 * b + 2
    · rw [q2, up2_eq]; omega
    · rw [up2_a _ _ _ q2]
      by_cases q1 : i = 3 * b + 1
      · rw [q1, up2_eq]; omega
      · rw [up2_a _ _ _ q1]
        by_cases q0 : i = 3 * b
        · rw [q0, up2_eq]; omega
        · rw [up2_a _ _ _ q0, up2_k _ _ _ (by decide)]; exact hl.2.1 i i1 i2
  · rw [up2_k _ _ _ (by decide), up2_k _ _ _ (by decide), up2_k _ _ _ (by decide), up2_k _ _ _ (by decide)] at c1
    rw [up2_k _ _ _ (by decide), up2_k _ _ _ (by decide), up2_k _ _ _ (by decide), up2_a _ _ _ (by omega)]
    exact hl.2.2 c c1 c2
/-- a turn of box o with which it has room beside another's place -/
abbrev pbeside (len sid : Int → Int) (o u b t x y z : Int) : Prop := (pext sid o u 0 ≤ x ∨ x + pext sid b t 0 + pext sid o u 0 ≤ len 0) ∨ (pext sid o u 1 ≤ y ∨ y + pext sid b t 1 + pext sid o u 1 ≤ len 1) ∨ (pext sid o u 2 ≤ z ∨ z + pext sid b t 2 + pext sid o u 2 ≤ len 2)
theorem proom_iff {len sid tb : Int → Int} {o b t x y z : Int} : proom len sid tb o b t x y z ↔ ∃ u, (0 ≤ u ∧ u < 6) ∧ (phas tb o u ∧ pshort len sid o u) ∧ pbeside len sid o u b t x y z := by
  constructor
  · rintro ⟨u, h1, h2, h3⟩
    exact ⟨u, h1, ⟨h2.1, h2.2.1⟩, by omega⟩
  · rintro ⟨u, h1, h2, h3⟩
    obtain ⟨w, w1, w2, w3⟩ := pcounts_of _ u rfl (⟨h1, h2.1, h2.2⟩ : pturn len sid tb o u)
    exact ⟨w, by omega, w2, by omega⟩
/-- one of those below u -/
def anyB (P : Int → Prop) (u : Int) : Prop := ∃ v, (0 ≤ v ∧ v < u) ∧ P v
theorem anyB_s {P : Int → Prop} {u : Int} (hu : 0 ≤ u) : anyB P (u + 1) ↔ anyB P u ∨ P u := by
  constructor
  · rintro ⟨v, h1, h2⟩
    by_cases e : v = u
    · subst e; exact Or.inr h2
    · exact Or.inl ⟨v, by omega, h2⟩
  · rintro (⟨v, h1, h2⟩ | h)
    · exact ⟨v, by omega, h2⟩
    · exact ⟨u, by omega, h⟩
theorem flag_1 {P : Int → Prop} {d u : Int} (hd : d = 1 ↔ anyB P u) (hu : 0 ≤ u) (h : d = 1 ∨ P u) : (1 : Int) = 1 ↔ anyB P (u + 1) := by
  rw [anyB_s hu]
  exact ⟨fun _ => h.elim (fun q => Or.inl (hd.mp q)) Or.inr, fun _ => rfl⟩
theorem flag_0 {P : Int → Prop} {d u : Int} (hd : d = 1 ↔ anyB P u) (hu : 0 ≤ u) (h0 : ¬ d = 1) (hp : ¬ P u) : (0 : Int) = 1 ↔ anyB P (u + 1) := by
  rw [anyB_s hu]
  exact ⟨fun q => by omega, fun q => q.elim (fun q => absurd (hd.mpr q) h0) (fun q => absurd q hp)⟩
theorem flag_d {P : Int → Prop} {d u : Int} (hd : d = 1 ↔ anyB P u) (hu : 0 ≤ u) (hp : ¬ P u) : d = 1 ↔ anyB P (u + 1) := by
  rw [anyB_s hu]
  exact ⟨fun q => Or.inl (hd.mp q), fun q => q.elim hd.mpr (fun q => absurd q hp)⟩
theorem anyB_0 {P : Int → Prop} : (0 : Int) = 1 ↔ anyB P 0 := ⟨fun h => by omega, fun ⟨v, h1, h2⟩ => by omega⟩
