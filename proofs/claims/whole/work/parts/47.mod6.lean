/-! the order of boxes -/
def pvol (sid : Int → Int) (b : Int) : Int := sid (b * 3) * sid (b * 3 + 1) * sid (b * 3 + 2)
theorem pvol_in {n : Int} {len sid tb wt : Int → Int} (hk : sOK n len sid tb wt) {b : Int} (hb : 0 ≤ b ∧ b < 8) : 0 ≤ pvol sid b ∧ pvol sid b ≤ 8000 := by
  have h0 := hk.2.2.1 (b * 3) (by omega) (by omega)
  have h1 := hk.2.2.1 (b * 3 + 1) (by omega) (by omega)
  have h2 := hk.2.2.1 (b * 3 + 2) (by omega) (by omega)
  exact mul_in (mul_in h0 h1) h2
/-- k is put into a row of k, behind all that are not less -/
def isIns (vol f : Int → Int) (k : Int) (g : Int → Int) : Prop := ∃ p, (0 ≤ p ∧ p ≤ k) ∧ (∀ j, 0 ≤ j → j < p → g j = f j) ∧ g p = k ∧ (∀ j, p < j → j ≤ k → g j = f (j - 1)) ∧ (∀ j, p ≤ j → j < k → vol (f j) < vol k) ∧ (p = 0 ∨ vol k ≤ vol (f (p - 1)))
theorem isIns.uniq {vol f f' : Int → Int} {k : Int} {g g' : Int → Int} (h : isIns vol f k g) (h' : isIns vol f' k g') (hf : ∀ j, 0 ≤ j → j < k → f j = f' j) : ∀ j, 0 ≤ j → j ≤ k → g j = g' j := by
  obtain ⟨p, p1, p2, p3, p4, p5, p6⟩ := h
  obtain ⟨q, q1, q2, q3, q4, q5, q6⟩ := h'
  have e : p = q := by
    rcases Int.lt_or_le p q with c | c
    · have a1 := p5 (q - 1) (by omega) (by omega)
      rcases q6 with q6 | q6
      · omega
      · rw [← hf (q - 1) (by omega) (by omega)] at q6; omega
    · rcases Int.lt_or_le q p with d | d
      · have a1 := q5 (p - 1) (by omega) (by omega)
        rcases p6 with p6 | p6
        · omega
        · rw [hf (p - 1) (by omega) (by omega)] at p6; omega
      · omega
  subst e
  intro j j1 j2
  by_cases c : j < p
  · rw [p2 j j1 c, q2 j j1 c, hf j j1 (by omega)]
  · by_cases d : j = p
    · subst d; rw [p3, q3]
    · rw [p4 j (by omega) j2, q4 j (by omega) j2, hf (j - 1) (by omega) (by omega)]
def isOrd (vol : Int → Int) : Nat → (Int → Int) → Prop
  | 0, _ => True
  | k + 1, g => ∃ f, isOrd vol k f ∧ isIns vol f k g
theorem isOrd.uniq {vol : Int → Int} : ∀ (k : Nat) {g g' : Int → Int}, isOrd vol k g → isOrd vol k g' → ∀ j : Int, 0 ≤ j → j < k → g j = g' j
  | 0, _, _, _, _, j, h1, h2 => by omega
  | k + 1, g, g', ⟨f, hf, hi⟩, ⟨f', hf', hi'⟩, j, h1, h2 => hi.uniq hi' (isOrd.uniq k hf hf') j h1 (by omega)
theorem isOrd.in {vol : Int → Int} : ∀ (k : Nat) {g : Int → Int}, isOrd vol k g → ∀ j : Int, 0 ≤ j → j < k → 0 ≤ g j ∧ g j < k
  | 0, _, _, j, h1, h2 => by omega
  | k + 1, g, ⟨f, hf, p, p1, p2, p3, p4, p5, p6⟩, j, h1, h2 => by
    by_cases c : j < p
    · rw [p2 j h1 c]; have := isOrd.in k hf j h1 (by omega); omega
    · by_cases d : j = p
      · subst d; rw [p3]; omega
      · rw [p4 j (by omega) (by omega)]; have := isOrd.in k hf (j - 1) (by omega) (by omega); omega
theorem isOrd.inj {vol : Int → Int} : ∀ (k : Nat) {g : Int → Int}, isOrd vol k g → ∀ i j : Int, 0 ≤ i → i < k → 0 ≤ j → j < k → g i = g j → i = j
  | 0, _, _, i, j, h1, h2, _, _, _ => by omega
  | k + 1, g, ⟨f, hf, p, p1, p2, p3, p4, p5, p6⟩, i, j, h1, h2, h3, h4, he => by
    have key : ∀ i : Int, 0 ≤ i → i < (k + 1 : Nat) → (i = p ∧ g i = k) ∨ (i < p ∧ g i = f i ∧ 0 ≤ f i ∧ f i < k) ∨ (p < i ∧ g i = f (i - 1) ∧ 0 ≤ f (i - 1) ∧ f (i - 1) < k) := by
      intro i i1 i2
      by_cases c : i < p
      · have := isOrd.in k hf i i1 (by omega)
        exact Or.inr (Or.inl ⟨c, p2 i i1 c, this.1, this.2⟩)
      · by_cases d : i = p
        · subst d; exact Or.inl ⟨rfl, p3⟩
        · have := isOrd.in k hf (i - 1) (by omega) (by omega)
          exact Or.inr (Or.inr ⟨by omega, p4 i (by omega) (by omega), this.1, this.2⟩)
    have step := isOrd.inj k hf
    rcases key i h1 h2 with a | a | a <;> rcases key j h3 h4 with b | b | b
    · omega
    · omega
    · omega
    · omega
    · exact step i j (by omega) (by omega) (by omega) (by omega) (by omega)
    · have := step i (j - 1) (by omega) (by omega) (by omega) (by omega) (by omega); omega
    · omega
    · have := step (i - 1) j (by omega) (by omega) (by omega) (by omega) (by omega); omega
    · have := step (i - 1) (j - 1) (by omega) (by omega) (by omega) (by omega) (by omega); omega
theorem isIns.ext {vol f : Int → Int} {k : Int} {g g' : Int → Int} (h : isIns vol f k g) (he : ∀ j, 0 ≤ j → j ≤ k → g' j = g j) : isIns vol f k g' := by
  obtain ⟨p, p1, p2, p3, p4, p5, p6⟩ := h
  exact ⟨p, p1, fun j a b => (he j a (by omega)).trans (p2 j a b), (he p p1.1 p1.2).trans p3, fun j a b => (he j (by omega) b).trans (p4 j a b), p5, p6⟩
theorem isOrd.ext {vol : Int → Int} : ∀ (k : Nat) {g g' : Int → Int}, isOrd vol k g → (∀ j : Int, 0 ≤ j → j < k → g' j = g j) → isOrd vol k g'
  | 0, _, _, _, _ => trivial
  | _ + 1, _, _, ⟨f, hf, hi⟩, he => ⟨f, hf, hi.ext (fun j a b => he j a (by omega))⟩
/-- the model's way: k goes down by swaps -/
def swI (vol f : Int → Int) (k i : Int) (g : Int → Int) : Prop := (0 ≤ i ∧ i ≤ k) ∧ (∀ j, 0 ≤ j → j < i → g j = f j) ∧ g i = k ∧ (∀ j, i < j → j ≤ k → g j = f (j - 1)) ∧ ∀ j, i ≤ j → j < k → vol (f j) < vol k
theorem swI.done {vol f g : Int → Int} {k i : Int} (h : swI vol f k i g) (he : i ≤ 0 ∨ vol k ≤ vol (f (i - 1))) : isIns vol f k g := ⟨i, h.1, h.2.1, h.2.2.1, h.2.2.2.1, h.2.2.2.2, by have := h.1; omega⟩
theorem swI.step {vol f g g' : Int → Int} {k i : Int} (h : swI vol f k i g) (hi : 0 < i) (hv : vol (f (i - 1)) < vol k) (e1 : g' i = g (i - 1)) (e2 : g' (i - 1) = k) (eo : ∀ j, j ≠ i → j ≠ i - 1 → g' j = g j) : swI vol f k (i - 1) g' := by
  obtain ⟨a1, a2, a3, a4, a5⟩ := h
  refine ⟨by omega, fun j b1 b2 => by rw [eo j (by omega) (by omega)]; exact a2 j b1 (by omega), e2, fun j b1 b2 => ?_, fun j b1 b2 => ?_⟩
  · by_cases e : j = i
    · subst e; rw [e1, a2 (j - 1) (by omega) (by omega)]
    · rw [eo j e (by omega)]; exact a4 j (by omega) b2
  · by_cases e : j = i - 1
    · subst e; exact hv
    · exact a5 j (by omega) b2
theorem keeps.mok {ks : List Nat} {S0 S : jMem} (h : keeps ks S0 S) (hq : 1 ∉ ks ∧ 2 ∉ ks ∧ 3 ∉ ks ∧ 4 ∉ ks) (h0 : S 0 1 = S0 0 1) (hk : mOK S0) : mOK S := by
  show sOK (S 0 1) (S 1) (S 2) (S 4) (S 3)
  rw [h0, h 1 hq.1, h 2 hq.2.1, h 3 hq.2.2.1, h 4 hq.2.2.2]; exact hk
