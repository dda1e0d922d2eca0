/-! the search: one step after another -/
/-- two boxes with a place each are apart on an axis -/
def papart (sid : Int → Int) (b t x y z b' t' x' y' z' : Int) : Prop := (x + pext sid b t 0 ≤ x' ∨ x' + pext sid b' t' 0 ≤ x) ∨ (y + pext sid b t 1 ≤ y' ∨ y' + pext sid b' t' 1 ≤ y) ∨ (z + pext sid b t 2 ≤ z' ∨ z' + pext sid b' t' 2 ≤ z)
/-- the next way of the box at a depth overlaps none of those before it -/
def pgood (n : Int) (len sid tb ord nx : Int → Int) (d : Int) : Prop := ∀ d', 0 ≤ d' → d' < d → ∀ t x y z t' x' y' z', isWay n len sid tb (ord d) (nx d) t x y z → isWay n len sid tb (ord d') (nx d' - 1) t' x' y' z' → papart sid (ord d) t x y z (ord d') t' x' y' z'
/-- status, depth, work, what is left of the work, the next ways -/
abbrev sst := Int × Int × Int × Int × (Int → Int)
noncomputable def sstep (n : Int) (len sid tb ord : Int → Int) (s : sst) : sst :=
  if s.1 ≠ 0 then s
  else if s.2.2.2.2 s.2.1 = wsum n len sid tb (ord s.2.1) 6 then (if s.2.1 - 1 < 0 then 2 else 0, s.2.1 - 1, s.2.2.1, s.2.2.2.1, s.2.2.2.2)
  else if s.2.2.2.1 = 0 then s
  else @ite sst (pgood n len sid tb ord s.2.2.2.2 s.2.1) (Classical.propDecidable _)
    (if s.2.1 + 1 = n then 1 else 0, s.2.1 + 1, s.2.2.1 + 1, s.2.2.2.1 - 1, if s.2.1 + 1 < n then fset (fset s.2.2.2.2 s.2.1 (s.2.2.2.2 s.2.1 + 1)) (s.2.1 + 1) 0 else fset s.2.2.2.2 s.2.1 (s.2.2.2.2 s.2.1 + 1))
    (0, s.2.1, s.2.2.1 + 1, s.2.2.2.1 - 1, fset s.2.2.2.2 s.2.1 (s.2.2.2.2 s.2.1 + 1))
section Ss
variable {n : Int} {len sid tb ord nx : Int → Int} {d w l : Int}
theorem sstep_end {st : Int} (h : st ≠ 0) : sstep n len sid tb ord (st, d, w, l, nx) = (st, d, w, l, nx) := if_pos h
theorem sstep_back (h : nx d = wsum n len sid tb (ord d) 6) : sstep n len sid tb ord (0, d, w, l, nx) = (if d - 1 < 0 then 2 else 0, d - 1, w, l, nx) := by
  unfold sstep; rw [if_neg (by simp), if_pos h]
theorem sstep_out (h : nx d ≠ wsum n len sid tb (ord d) 6) : sstep n len sid tb ord (0, d, w, 0, nx) = (0, d, w, 0, nx) := by
  unfold sstep; rw [if_neg (by simp), if_neg h, if_pos rfl]
theorem sstep_no (h : nx d ≠ wsum n len sid tb (ord d) 6) (hl : l ≠ 0) (hg : ¬ pgood n len sid tb ord nx d) : sstep n len sid tb ord (0, d, w, l, nx) = (0, d, w + 1, l - 1, fset nx d (nx d + 1)) := by
  unfold sstep; rw [if_neg (by simp), if_neg h, if_neg hl, if_neg hg]
theorem sstep_go (h : nx d ≠ wsum n len sid tb (ord d) 6) (hl : l ≠ 0) (hg : pgood n len sid tb ord nx d) (hd : d + 1 < n) : sstep n len sid tb ord (0, d, w, l, nx) = (0, d + 1, w + 1, l - 1, fset (fset nx d (nx d + 1)) (d + 1) 0) := by
  unfold sstep; rw [if_neg (by simp), if_neg h, if_neg hl, if_pos hg]
  show (if d + 1 = n then (1 : Int) else 0, d + 1, w + 1, l - 1, if d + 1 < n then _ else _) = _
  rw [if_neg (by omega), if_pos hd]
theorem sstep_full (h : nx d ≠ wsum n len sid tb (ord d) 6) (hl : l ≠ 0) (hg : pgood n len sid tb ord nx d) (hd : d + 1 = n) : sstep n len sid tb ord (0, d, w, l, nx) = (1, d + 1, w + 1, l - 1, fset nx d (nx d + 1)) := by
  unfold sstep; rw [if_neg (by simp), if_neg h, if_neg hl, if_pos hg]
  show (if d + 1 = n then (1 : Int) else 0, d + 1, w + 1, l - 1, if d + 1 < n then _ else _) = _
  rw [if_pos hd, if_neg (by omega)]
end Ss
def itr (f : sst → sst) : Nat → sst → sst
  | 0, s => s
  | k + 1, s => itr f k (f s)
theorem itr_fix {f : sst → sst} {s : sst} (h : f s = s) : ∀ k, itr f k s = s
  | 0 => rfl
  | k + 1 => by show itr f k (f s) = s; rw [h]; exact itr_fix h k
theorem itr_add {f : sst → sst} : ∀ (a b : Nat) (s : sst), itr f (a + b) s = itr f b (itr f a s)
  | 0, b, s => by rw [Nat.zero_add]; rfl
  | a + 1, b, s => by rw [Nat.add_right_comm]; show itr f (a + b) (f s) = _; exact itr_add a b (f s)
theorem itr_uniq {f : sst → sst} {a b : Nat} {s : sst} (ha : f (itr f a s) = itr f a s) (hb : f (itr f b s) = itr f b s) : itr f a s = itr f b s := by
  rcases Nat.le_total a b with h | h
  · obtain ⟨c, rfl⟩ := Nat.exists_eq_add_of_le h
    rw [itr_add, itr_fix ha]
  · obtain ⟨c, rfl⟩ := Nat.exists_eq_add_of_le h
    rw [itr_add, itr_fix hb]
/-- from here a state is reached that stays -/
def sEnd (f : sst → sst) (s s' : sst) : Prop := ∃ k, itr f k s = s' ∧ f s' = s'
theorem sEnd.uniq {f : sst → sst} {s a b : sst} (ha : sEnd f s a) (hb : sEnd f s b) : a = b := by
  obtain ⟨k, rfl, h1⟩ := ha
  obtain ⟨m, rfl, h2⟩ := hb
  exact itr_uniq h1 h2
theorem sEnd.step {f : sst → sst} {s s1 s' : sst} (h : f s = s1) (h2 : sEnd f s1 s') : sEnd f s s' := by
  obtain ⟨k, a, b⟩ := h2
  exact ⟨k + 1, by show itr f k (f s) = s'; rw [h]; exact a, b⟩
theorem sEnd.here {f : sst → sst} {s : sst} (h : f s = s) : sEnd f s s := ⟨0, rfl, h⟩
/-- the model's plan of the boxes below a depth -/
def mplan (S : jMem) (nx : Int → Int) (d : Int) : Prop := ∀ d', 0 ≤ d' → d' < d → isWay (S 0 1) (S 1) (S 2) (S 4) (S 7 d') (nx d' - 1) (S 9 (S 7 d')) (S 10 (3 * S 7 d')) (S 10 (3 * S 7 d' + 1)) (S 10 (3 * S 7 d' + 2))
/-- the model's state of the search -/
def mrel (S : jMem) (s : sst) : Prop := (S 0 7 = s.1 ∧ S 0 8 = s.2.1 ∧ S 0 9 = s.2.2.1 ∧ S 8 = s.2.2.2.2) ∧ (s.1 = 0 ∨ s.1 = 1 ∨ s.1 = 2) ∧ (s.1 = 0 → 0 ≤ s.2.1 ∧ s.2.1 < S 0 1) ∧ (s.1 = 1 → s.2.1 = S 0 1) ∧ mplan S s.2.2.2.2 s.2.1 ∧ (∀ d, 0 ≤ d → d < S 0 1 → d ≤ s.2.1 → 0 ≤ s.2.2.2.2 d ∧ s.2.2.2.2 d ≤ wsum (S 0 1) (S 1) (S 2) (S 4) (S 7 d) 6)
