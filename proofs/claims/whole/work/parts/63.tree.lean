/-! trees of cuts -/
def isCut (bg en : Int → Int) (s a p : Int) : Prop := (∀ k, 0 ≤ k → k < 8 → zbit s k → en (k * 3 + a) ≤ p ∨ p ≤ bg (k * 3 + a)) ∧ (∃ k, (0 ≤ k ∧ k < 8) ∧ zbit s k ∧ en (k * 3 + a) ≤ p) ∧ ∃ k, (0 ≤ k ∧ k < 8) ∧ zbit s k ∧ p < en (k * 3 + a)
def fcut (bg en : Int → Int) (s a p : Int) : Prop := (0 ≤ a ∧ a < 3) ∧ isCut bg en s a p ∧ ∀ a' p', 0 ≤ a' → a' < 3 → (a' < a ∨ (a' = a ∧ p' < p)) → ¬ isCut bg en s a' p'
def nocut (bg en : Int → Int) (s : Int) : Prop := ∀ a p, 0 ≤ a → a < 3 → ¬ isCut bg en s a p
theorem fcut.uniq {bg en : Int → Int} {s a p a' p' : Int} (h : fcut bg en s a p) (g : fcut bg en s a' p') : a = a' ∧ p = p' := by
  obtain ⟨h1, h2, h3⟩ := h
  obtain ⟨g1, g2, g3⟩ := g
  rcases Int.lt_or_le a a' with c | c
  · exact absurd h2 (g3 a p h1.1 h1.2 (Or.inl c))
  · rcases Int.lt_or_le a' a with d | d
    · exact absurd g2 (h3 a' p' g1.1 g1.2 (Or.inl d))
    · have e : a = a' := by omega
      subst e
      rcases Int.lt_or_le p p' with c2 | c2
      · exact absurd h2 (g3 a p h1.1 h1.2 (Or.inr ⟨rfl, c2⟩))
      · rcases Int.lt_or_le p' p with d2 | d2
        · exact absurd g2 (h3 a p' g1.1 g1.2 (Or.inr ⟨rfl, d2⟩))
        · exact ⟨rfl, by omega⟩
def isBef (en : Int → Int) (s a p b : Int) : Prop := 0 ≤ b ∧ ∀ j, 0 ≤ j → (zbit b j ↔ zbit s j ∧ en (j * 3 + a) ≤ p)
theorem isBef.uniq {en : Int → Int} {s a p b c : Int} (h : isBef en s a p b) (g : isBef en s a p c) : b = c := zbit_ext h.1 g.1 (fun j hj => (h.2 j hj).trans (g.2 j hj).symm)
abbrev tst := List Int × Int × (Int → Int)
def rec4 (r : Int → Int) (m a p o t : Int) : Int → Int := fset (fset (fset (fset r (m * 4) a) (m * 4 + 1) p) (m * 4 + 2) o) (m * 4 + 3) t
def tstep (bg en : Int → Int) (s s' : tst) : Prop := ∃ x R, s.1 = x :: R ∧ ((∃ l, isLow x l ∧ x = 1 * 2 ^ l.toNat ∧ s' = (R, s.2.1 + 1, rec4 s.2.2 s.2.1 (-9) l (-9) (-9))) ∨ (zand x (x - 1) ≠ 0 ∧ ∃ a p b, fcut bg en x a p ∧ isBef en x a p b ∧ s' = (b :: zandn x b :: R, s.2.1 + 1, rec4 s.2.2 s.2.1 a p (s.2.1 + 1) (s.2.1 + 2 * zcnt b))) ∨ (zand x (x - 1) ≠ 0 ∧ nocut bg en x ∧ s' = ([], 0, s.2.2)))
theorem single_iff {x l : Int} (hx : 0 < x) (h : isLow x l) : zand x (x - 1) = 0 ↔ x = 1 * 2 ^ l.toNat := by
  constructor
  · intro e
    have h0 : (0 : Int) ≤ 1 * 2 ^ l.toNat := by
      have : (1 * 2 ^ l.toNat : Int) = ((2 ^ l.toNat : Nat) : Int) := by simp
      rw [this]; exact Int.natCast_nonneg _
    refine zbit_ext (by omega) h0 (fun j hj => ?_)
    rw [zbit_pow h.1 hj]
    have h2 := low_off hx h hj
    rw [e] at h2
    constructor
    · intro q
      by_cases c : j = l
      · exact c
      · exact absurd (h2.mpr ⟨q, c⟩) (zbit_0 j)
    · intro q; subst q; exact h.2.1
  · intro e
    refine zbit_ext (zand_nn _ _) (Int.le_refl 0) (fun j hj => ?_)
    rw [low_off hx h hj]
    constructor
    · rintro ⟨q, c⟩
      rw [e, zbit_pow h.1 hj] at q
      exact absurd q c
    · intro q; exact absurd q (zbit_0 j)
theorem tstep.det {bg en : Int → Int} {s a b : tst} (h : tstep bg en s a) (g : tstep bg en s b) : a = b := by
  obtain ⟨x, R, e, h⟩ := h
  obtain ⟨x', R', e', g⟩ := g
  rw [e] at e'
  obtain ⟨rfl, rfl⟩ := List.cons.inj e'
  have one : ∀ l, isLow x l → x = 1 * 2 ^ l.toNat → zand x (x - 1) ≠ 0 → False := fun l hl hx hz => by
    have hp : (0 : Int) < x := by
      have : (1 * 2 ^ l.toNat : Int) = ((2 ^ l.toNat : Nat) : Int) := by simp
      rw [hx, this]; exact_mod_cast Nat.two_pow_pos _
    exact hz ((single_iff hp hl).mpr hx)
  rcases h with ⟨l, l1, l2, rfl⟩ | ⟨h0, a1, p1, b1, h1, h2, rfl⟩ | ⟨h0, h1, rfl⟩
  · rcases g with ⟨l', l1', l2', rfl⟩ | ⟨g0, a1', p1', b1', g1, g2, rfl⟩ | ⟨g0, g1, rfl⟩
    · rw [l1.uniq l1']
    · exact (one l l1 l2 g0).elim
    · exact (one l l1 l2 g0).elim
  · rcases g with ⟨l', l1', l2', rfl⟩ | ⟨g0, a1', p1', b1', g1, g2, rfl⟩ | ⟨g0, g1, rfl⟩
    · exact (one l' l1' l2' h0).elim
    · obtain ⟨rfl, rfl⟩ := h1.uniq g1
      rw [h2.uniq g2]
    · exact absurd h1.2.1 (g1 a1 p1 h1.1.1 h1.1.2)
  · rcases g with ⟨l', l1', l2', rfl⟩ | ⟨g0, a1', p1', b1', g1, g2, rfl⟩ | ⟨g0, g1, rfl⟩
    · exact (one l' l1' l2' h0).elim
    · exact absurd g1.2.1 (h1 a1' p1' g1.1.1 g1.1.2)
    · rfl
def tEndN (bg en : Int → Int) : Nat → tst → tst → Prop
  | 0, s, s' => s' = s ∧ s.1 = []
  | k + 1, s, s' => ∃ s1, tstep bg en s s1 ∧ tEndN bg en k s1 s'
theorem tEndN.uniq {bg en : Int → Int} : ∀ (k k' : Nat) {s a b : tst}, tEndN bg en k s a → tEndN bg en k' s b → a = b
  | 0, 0, _, _, _, h, g => h.1.trans g.1.symm
  | 0, k' + 1, s, a, b, h, ⟨s1, g1, _⟩ => by
    obtain ⟨x, R, e, -⟩ := g1
    rw [h.2] at e; cases e
  | k + 1, 0, s, a, b, ⟨s1, h1, _⟩, g => by
    obtain ⟨x, R, e, -⟩ := h1
    rw [g.2] at e; cases e
  | k + 1, k' + 1, s, a, b, ⟨s1, h1, h2⟩, ⟨s2, g1, g2⟩ => by
    have e := h1.det g1
    subst e
    exact tEndN.uniq k k' h2 g2
def tEnd (bg en : Int → Int) (s s' : tst) : Prop := ∃ k, tEndN bg en k s s'
theorem tEnd.uniq {bg en : Int → Int} {s a b : tst} (h : tEnd bg en s a) (g : tEnd bg en s b) : a = b := by
  obtain ⟨k, h⟩ := h
  obtain ⟨k', g⟩ := g
  exact tEndN.uniq k k' h g
theorem tEnd.step {bg en : Int → Int} {s s1 s' : tst} (h : tstep bg en s s1) (g : tEnd bg en s1 s') : tEnd bg en s s' := by
  obtain ⟨k, g⟩ := g
  exact ⟨k + 1, s1, h, g⟩
theorem tEnd.here {bg en : Int → Int} {s : tst} (h : s.1 = []) : tEnd bg en s s := ⟨0, rfl, h⟩
def stk (f : Int → Int) : Nat → List Int
  | 0 => []
  | h + 1 => f h :: stk f h
theorem stk_congr {f g : Int → Int} : ∀ (h : Nat), (∀ i : Int, 0 ≤ i → i < h → f i = g i) → stk f h = stk g h
  | 0, _ => rfl
  | h + 1, e => by
    show f h :: stk f h = g h :: stk g h
    rw [e h (by omega) (by omega), stk_congr h (fun i a b => e i a (by omega))]
noncomputable def pw (f : Int → Int) (hi : Int) : Int := isum (fun q => 2 * zcnt (f q) - 1) 0 hi.toNat
theorem pw_0 (f : Int → Int) : pw f 0 = 0 := rfl
theorem pw_s (f : Int → Int) {h : Int} (hh : 0 ≤ h) : pw f (h + 1) = pw f h + (2 * zcnt (f h) - 1) := by
  unfold pw
  rw [show (h + 1).toNat = h.toNat + 1 by omega, isum_last, Int.zero_add, Int.toNat_of_nonneg hh]
theorem pw_congr {f g : Int → Int} {h : Int} (e : ∀ i, 0 ≤ i → i < h → f i = g i) : pw f h = pw g h := by
  unfold pw
  exact isum_congr _ 0 (fun j a b => by rw [e j a (by omega)])
theorem pw_lb {f : Int → Int} : ∀ h : Nat, (∀ i : Int, 0 ≤ i → i < h → 1 ≤ zcnt (f i)) → (h : Int) ≤ pw f h
  | 0, _ => by rw [show ((0 : Nat) : Int) = 0 from rfl, pw_0]; omega
  | h + 1, e => by
    have h1 := pw_lb h (fun i a b => e i a (by omega))
    have h2 := e h (by omega) (by omega)
    rw [show ((h + 1 : Nat) : Int) = (h : Int) + 1 by omega, pw_s f (by omega)]; omega
/-! the model's piles and nodes -/
def ndOK (r : Int → Int) (S : jMem) (h m : Int) : Prop := S 14 m = r (m * 4) ∧ S 15 m = r (m * 4 + 1) ∧ (S 16 m = r (m * 4 + 2) ∨ ∃ i, (0 ≤ i ∧ i < h) ∧ S 19 i = m ∧ S 20 i = 1) ∧ (S 17 m = r (m * 4 + 3) ∨ ∃ i, (0 ≤ i ∧ i < h) ∧ S 19 i = m ∧ S 20 i = 2)
def pdOK (r : Int → Int) (S : jMem) (n tot i : Int) : Prop := S 19 i = -9 ∨ ((0 ≤ S 19 i ∧ S 19 i < n) ∧ ((S 20 i = 1 ∧ r (S 19 i * 4 + 2) = tot - pw (S 18) (i + 1)) ∨ (S 20 i = 2 ∧ r (S 19 i * 4 + 3) = tot - pw (S 18) (i + 1))))
def stOK (S : jMem) (x : Int) : Prop := (0 < x ∧ x < 256) ∧ ∀ j, 0 ≤ j → zbit x j → j < S 0 1 ∧ 0 < S 5 j
def plW (S0 : jMem) (tot h n : Int) (r : Int → Int) (S : jMem) : Prop := (keeps [0, 14, 15, 16, 17, 18, 19, 20] S0 S ∧ (∀ j, j ≠ 21 → S 0 j = S0 0 j)) ∧ (0 ≤ h ∧ 0 ≤ n ∧ tot ≤ 15) ∧ (∀ i, 0 ≤ i → i < h → stOK S0 (S 18 i)) ∧ (∀ m, 0 ≤ m → m < n → ndOK r S h m) ∧ ∀ i, 0 ≤ i → i < h → pdOK r S n tot i
def plI (S0 : jMem) (s0 : tst) (tot h : Int) (S : jMem) : Prop := ∃ r, plW S0 tot h (S 0 21) r S ∧ S 0 21 + pw (S 18) h = tot ∧ ∀ X, tEnd (S0 6) (men S0) (stk (S 18) h.toNat, S 0 21, r) X → tEnd (S0 6) (men S0) s0 X
def plJ (S0 : jMem) (s0 : tst) (tot h n x : Int) (S : jMem) : Prop := ∃ r, plW S0 tot h n r S ∧ (S 0 21 = n + 1 ∧ S 18 h = x ∧ stOK S0 x) ∧ n + pw (S 18) (h + 1) = tot ∧ ∀ X, tEnd (S0 6) (men S0) (x :: stk (S 18) h.toNat, n, r) X → tEnd (S0 6) (men S0) s0 X
theorem stOK.pos {S : jMem} {x : Int} (h : stOK S x) : 1 ≤ zcnt x := by
  obtain ⟨l, hl⟩ := isLow.ex h.1.1
  have hh := h.1
  have := hl.lt (k := 8) (by omega) (by show x < 256; omega)
  exact zcnt_pos hl.2.1 (by have := hl.1; omega)
theorem plI.bd {S0 S : jMem} {s0 : tst} {tot h : Int} (H : plI S0 s0 tot h S) : (0 ≤ h ∧ 0 ≤ S 0 21) ∧ S 0 21 + h ≤ 15 := by
  obtain ⟨r, ⟨-, a, b, -⟩, c, -⟩ := H
  have hh : h = ((h.toNat : Nat) : Int) := by omega
  have := pw_lb (f := S 18) h.toNat (fun i i1 i2 => (b i i1 (by omega)).pos)
  rw [← hh] at this; omega
/-- off the pile, in three ways -/
theorem plI.pop {S0 S : jMem} {s0 : tst} {tot h : Int} (H : plI S0 s0 tot h S) (hh : 0 < h) : (S 19 (h - 1) = -9 → plJ S0 s0 tot (h - 1) (S 0 21) (S 18 (h - 1)) (up2 S 0 21 (S 0 21 + 1))) ∧ (S 19 (h - 1) ≠ -9 → (0 ≤ S 19 (h - 1) ∧ S 19 (h - 1) < S 0 21) ∧ (S 20 (h - 1) = 1 ∨ S 20 (h - 1) = 2) ∧ (S 20 (h - 1) = 1 → plJ S0 s0 tot (h - 1) (S 0 21) (S 18 (h - 1)) (up2 (up2 S 0 21 (S 0 21 + 1)) 16 (S 19 (h - 1)) (S 0 21))) ∧ (S 20 (h - 1) = 2 → plJ S0 s0 tot (h - 1) (S 0 21) (S 18 (h - 1)) (up2 (up2 S 0 21 (S 0 21 + 1)) 17 (S 19 (h - 1)) (S 0 21)))) := by
  obtain ⟨r, ⟨⟨k1, k2⟩, a, b, c, d⟩, e, f⟩ := H
  have es : stk (S 18) h.toNat = S 18 (h - 1) :: stk (S 18) (h - 1).toNat := by
    have e1 : h.toNat = (h - 1).toNat + 1 := by omega
    have e2 : (((h - 1).toNat : Nat) : Int) = h - 1 := by omega
    rw [e1]
    show S 18 ((h - 1).toNat : Nat) :: _ = _
    rw [e2]
  rw [es] at f
  have eh : h - 1 + 1 = h := by omega
  have dl := d (h - 1) (by omega) (by omega)
  unfold pdOK at dl
  rw [eh] at dl
  have up : ∀ j, j ≠ 21 → up2 S 0 21 (S 0 21 + 1) 0 j = S0 0 j := fun j hj => by rw [up2_a _ _ _ hj]; exact k2 j hj
  refine ⟨fun h9 => ⟨r, ⟨⟨k1.up (by decide) _ _, up⟩, by omega, fun i i1 i2 => b i i1 (by omega), fun m m1 m2 => ?_, fun i i1 i2 => d i i1 (by omega)⟩, ⟨up2_eq _ _ _ _, rfl, b _ (by omega) (by omega)⟩, by rw [eh]; exact e, f⟩, fun h9 => ?_⟩
  · obtain ⟨q1, q2, q3, q4⟩ := c m m1 m2
    refine ⟨q1, q2, ?_, ?_⟩
    · rcases q3 with q3 | ⟨i, i1, i2, i3⟩
      · exact Or.inl q3
      · refine Or.inr ⟨i, ⟨i1.1, ?_⟩, i2, i3⟩
        by_cases ei : i = h - 1
        · subst ei; omega
        · omega
    · rcases q4 with q4 | ⟨i, i1, i2, i3⟩
      · exact Or.inl q4
      · refine Or.inr ⟨i, ⟨i1.1, ?_⟩, i2, i3⟩
        by_cases ei : i = h - 1
        · subst ei; omega
        · omega
  · rcases dl with dl | ⟨d1, d2⟩
    · exact absurd dl h9
    · refine ⟨d1, by omega, fun s1 => ?_, fun s2 => ?_⟩
      · have pr : r (S 19 (h - 1) * 4 + 2) = S 0 21 := by omega
        refine ⟨r, ⟨⟨(k1.up (by decide) _ _).up (by decide) _ _, fun j hj => by rw [up2_k _ _ _ (by decide)]; exact up j hj⟩, by omega, fun i i1 i2 => b i i1 (by omega), fun m m1 m2 => ?_, fun i i1 i2 => d i i1 (by omega)⟩, ⟨by rw [up2_k _ _ _ (by decide), up2_eq], rfl, b _ (by omega) (by omega)⟩, by rw [eh]; exact e, f⟩
        obtain ⟨q1, q2, q3, q4⟩ := c m m1 m2
        refine ⟨q1, q2, ?_, ?_⟩
        · by_cases em : m = S 19 (h - 1)
          · left; rw [em, up2_eq]; omega
          · rw [up2_a _ _ _ em]
            rcases q3 with q3 | ⟨i, i1, i2, i3⟩
            · exact Or.inl q3
            · refine Or.inr ⟨i, ⟨i1.1, ?_⟩, i2, i3⟩
              by_cases ei : i = h - 1
              · subst ei; omega
              · omega
        · rcases q4 with q4 | ⟨i, i1, i2, i3⟩
          · exact Or.inl q4
          · refine Or.inr ⟨i, ⟨i1.1, ?_⟩, i2, i3⟩
            by_cases ei : i = h - 1
            · subst ei; omega
            · omega
      · have pr : r (S 19 (h - 1) * 4 + 3) = S 0 21 := by omega
        refine ⟨r, ⟨⟨(k1.up (by decide) _ _).up (by decide) _ _, fun j hj => by rw [up2_k _ _ _ (by decide)]; exact up j hj⟩, by omega, fun i i1 i2 => b i i1 (by omega), fun m m1 m2 => ?_, fun i i1 i2 => d i i1 (by omega)⟩, ⟨by rw [up2_k _ _ _ (by decide), up2_eq], rfl, b _ (by omega) (by omega)⟩, by rw [eh]; exact e, f⟩
        obtain ⟨q1, q2, q3, q4⟩ := c m m1 m2
        refine ⟨q1, q2, ?_, ?_⟩
        · rcases q3 with q3 | ⟨i, i1, i2, i3⟩
          · exact Or.inl q3
          · refine Or.inr ⟨i, ⟨i1.1, ?_⟩, i2, i3⟩
            by_cases ei : i = h - 1
            · subst ei; omega
            · omega
        · by_cases em : m = S 19 (h - 1)
          · left; rw [em, up2_eq]; omega
          · rw [up2_a _ _ _ em]
            rcases q4 with q4 | ⟨i, i1, i2, i3⟩
            · exact Or.inl q4
            · refine Or.inr ⟨i, ⟨i1.1, ?_⟩, i2, i3⟩
              by_cases ei : i = h - 1
              · subst ei; omega
              · omega
section R4
variable {r : Int → Int} {n a p o t m : Int}
theorem rec4_o (h : m ≠ n) : rec4 r n a p o t (m * 4) = r (m * 4) ∧ rec4 r n a p o t (m * 4 + 1) = r (m * 4 + 1) ∧ rec4 r n a p o t (m * 4 + 2) = r (m * 4 + 2) ∧ rec4 r n a p o t (m * 4 + 3) = r (m * 4 + 3) := by
  unfold rec4
  refine ⟨?_, ?_, ?_, ?_⟩
  all_goals rw [fset_n _ _ (by omega), fset_n _ _ (by omega), fset_n _ _ (by omega), fset_n _ _ (by omega)]
theorem rec4_e : rec4 r n a p o t (n * 4) = a ∧ rec4 r n a p o t (n * 4 + 1) = p ∧ rec4 r n a p o t (n * 4 + 2) = o ∧ rec4 r n a p o t (n * 4 + 3) = t := by
  unfold rec4
  refine ⟨?_, ?_, ?_, fset_e _ _ _⟩
  · rw [fset_n _ _ (by omega), fset_n _ _ (by omega), fset_n _ _ (by omega), fset_e]
  · rw [fset_n _ _ (by omega), fset_n _ _ (by omega), fset_e]
  · rw [fset_n _ _ (by omega), fset_e]
end R4
theorem zcnt_pow {l : Int} (hl : 0 ≤ l ∧ l < 24) : zcnt (1 * 2 ^ l.toNat) = 1 := by
  have h0 : (0 : Int) ≤ 1 * 2 ^ l.toNat := by
    have : (1 * 2 ^ l.toNat : Int) = ((2 ^ l.toNat : Nat) : Int) := by simp
    rw [this]; exact Int.natCast_nonneg _
  unfold zcnt
  have e1 := pcnt_s (zbit (1 * 2 ^ l.toNat)) hl.1
  have e2 := pcnt_split (zbit (1 * 2 ^ l.toNat)) (a := l + 1) (by omega) (23 - l).toNat
  have e3 := pcnt_none (P := fun j => zbit (1 * 2 ^ l.toNat) (l + 1 + j)) (v := (((23 - l).toNat : Nat) : Int)) (fun j j1 j2 q => by have := (zbit_pow hl.1 (by omega)).mp q; omega)
  have e4 := pcnt_none (P := zbit (1 * 2 ^ l.toNat)) (v := l) (fun j j1 j2 q => by have := (zbit_pow hl.1 j1).mp q; omega)
  rw [e3, show l + 1 + (((23 - l).toNat : Nat) : Int) = 24 by omega, e1, e4, bb_t ((zbit_pow hl.1 hl.1).mpr rfl)] at e2
  rw [e2]; rfl
/-- a leaf -/
def leafM (S : jMem) (n l : Int) : jMem := up2 (up2 (up2 (up2 S 16 n (-9)) 17 n (-9)) 14 n (-9)) 15 n l
theorem plJ.leaf {S0 S : jMem} {s0 : tst} {tot h n x l : Int} (H : plJ S0 s0 tot h n x S) (hl : isLow x l) (hx : x = 1 * 2 ^ l.toNat) : plI S0 s0 tot h (leafM S n l) := by
  obtain ⟨r, ⟨⟨k1, k2⟩, a, b, c, d⟩, ⟨g1, g2, g3⟩, e, f⟩ := H
  have hl8 := hl.lt (k := 8) (by have := g3.1; omega) (by show x < 256; exact g3.1.2)
  have z1 : zcnt x = 1 := by rw [hx]; exact zcnt_pow (by have := hl.1; omega)
  have p1 := pw_s (S 18) a.1
  rw [g2, z1] at p1
  have c0 : ∀ j, leafM S n l 0 j = S 0 j := fun j => rfl
  refine ⟨rec4 r n (-9) l (-9) (-9), ⟨⟨(((k1.up (by decide) _ _).up (by decide) _ _).up (by decide) _ _).up (by decide) _ _, fun j hj => by rw [c0]; exact k2 j hj⟩, by rw [c0, g1]; omega, b, fun m m1 m2 => ?_, fun i i1 i2 => ?_⟩, ?_, fun X hX => ?_⟩
  · by_cases em : m = n
    · subst em
      obtain ⟨r1, r2, r3, r4⟩ := rec4_e (r := r) (n := m) (a := -9) (p := l) (o := -9) (t := -9)
      refine ⟨?_, ?_, Or.inl ?_, Or.inl ?_⟩
      · rw [r1]; unfold leafM; rw [up2_k _ _ _ (by decide), up2_eq]
      · rw [r2]; unfold leafM; rw [up2_eq]
      · rw [r3]; unfold leafM; rw [up2_k _ _ _ (by decide), up2_k _ _ _ (by decide), up2_k _ _ _ (by decide), up2_eq]
      · rw [r4]; unfold leafM; rw [up2_k _ _ _ (by decide), up2_k _ _ _ (by decide), up2_eq]
    · rw [c0, g1] at m2
      obtain ⟨q1, q2, q3, q4⟩ := c m m1 (by omega)
      obtain ⟨r1, r2, r3, r4⟩ := rec4_o (r := r) (n := n) (a := -9) (p := l) (o := -9) (t := -9) em
      unfold ndOK
      rw [r1, r2, r3, r4]
      refine ⟨?_, ?_, ?_, ?_⟩
      · unfold leafM; rw [up2_k _ _ _ (by decide), up2_a _ _ _ em, up2_k _ _ _ (by decide), up2_k _ _ _ (by decide)]; exact q1
      · unfold leafM; rw [up2_a _ _ _ em, up2_k _ _ _ (by decide), up2_k _ _ _ (by decide), up2_k _ _ _ (by decide)]; exact q2
      · unfold leafM; rw [up2_k _ _ _ (by decide), up2_k _ _ _ (by decide), up2_k _ _ _ (by decide), up2_a _ _ _ em]; exact q3
      · unfold leafM; rw [up2_k _ _ _ (by decide), up2_k _ _ _ (by decide), up2_a _ _ _ em, up2_k _ _ _ (by decide)]; exact q4
  · have := d i i1 i2
    unfold pdOK at this ⊢
    rcases this with q | ⟨q1, q2⟩
    · exact Or.inl q
    · right
      refine ⟨⟨q1.1, by rw [c0, g1]; show S 19 i < n + 1; omega⟩, ?_⟩
      obtain ⟨-, -, r3, r4⟩ := rec4_o (r := r) (n := n) (a := -9) (p := l) (o := -9) (t := -9) (m := S 19 i) (by omega)
      show (S 20 i = 1 ∧ rec4 r n (-9) l (-9) (-9) (S 19 i * 4 + 2) = tot - pw (S 18) (i + 1)) ∨ (S 20 i = 2 ∧ rec4 r n (-9) l (-9) (-9) (S 19 i * 4 + 3) = tot - pw (S 18) (i + 1))
      rw [r3, r4]; exact q2
  · rw [c0, g1]; show n + 1 + pw (S 18) h = tot; omega
  · refine f X (tEnd.step ⟨x, _, rfl, Or.inl ⟨l, hl, hx, rfl⟩⟩ ?_)
    rw [c0, g1] at hX
    exact hX
/-- a cut -/
def cutM (S : jMem) (h n l a p s b : Int) : jMem := up2 (up2 (up2 (up2 (up2 (up2 (up2 (up2 (leafM S n l) 14 n a) 15 n p) 18 h s) 19 h n) 20 h 2) 18 (h + 1) b) 19 (h + 1) n) 20 (h + 1) 1
theorem plJ.cut {S0 S : jMem} {s0 : tst} {tot h n x l a p b : Int} (H : plJ S0 s0 tot h n x S) (hz : zand x (x - 1) ≠ 0) (hc : fcut (S0 6) (men S0) x a p) (hb : isBef (men S0) x a p b) : plI S0 s0 tot (h + 2) (cutM S h n l a p (zandn x b) b) := by
  obtain ⟨r, ⟨⟨k1, k2⟩, a0, b0, c, d⟩, ⟨g1, g2, g3⟩, e, f⟩ := H
  have p1 := pw_s (S 18) a0.1
  rw [g2] at p1
  have hzc := zcnt_part (s := x) (b := b) (by have := g3.1; omega) hb.1 (fun j hj q => ((hb.2 j hj).mp q).1)
  have e18 : cutM S h n l a p (zandn x b) b 18 = fset (fset (S 18) h (zandn x b)) (h + 1) b := by
    unfold cutM leafM; rw [up2_k _ _ _ (by decide), up2_k _ _ _ (by decide), up2_s, up2_k _ _ _ (by decide), up2_k _ _ _ (by decide), up2_s, up2_k _ _ _ (by decide), up2_k _ _ _ (by decide), up2_k _ _ _ (by decide), up2_k _ _ _ (by decide), up2_k _ _ _ (by decide), up2_k _ _ _ (by decide)]
  have e19 : cutM S h n l a p (zandn x b) b 19 = fset (fset (S 19) h n) (h + 1) n := by
    unfold cutM leafM; rw [up2_k _ _ _ (by decide), up2_s, up2_k _ _ _ (by decide), up2_k _ _ _ (by decide), up2_s, up2_k _ _ _ (by decide), up2_k _ _ _ (by decide), up2_k _ _ _ (by decide), up2_k _ _ _ (by decide), up2_k _ _ _ (by decide), up2_k _ _ _ (by decide), up2_k _ _ _ (by decide)]
  have e20 : cutM S h n l a p (zandn x b) b 20 = fset (fset (S 20) h 2) (h + 1) 1 := by
    unfold cutM leafM; rw [up2_s, up2_k _ _ _ (by decide), up2_k _ _ _ (by decide), up2_s, up2_k _ _ _ (by decide), up2_k _ _ _ (by decide), up2_k _ _ _ (by decide), up2_k _ _ _ (by decide), up2_k _ _ _ (by decide), up2_k _ _ _ (by decide), up2_k _ _ _ (by decide), up2_k _ _ _ (by decide)]
  have e14 : cutM S h n l a p (zandn x b) b 14 = fset (fset (S 14) n (-9)) n a := by
    unfold cutM leafM; rw [up2_k _ _ _ (by decide), up2_k _ _ _ (by decide), up2_k _ _ _ (by decide), up2_k _ _ _ (by decide), up2_k _ _ _ (by decide), up2_k _ _ _ (by decide), up2_k _ _ _ (by decide), up2_s, up2_k _ _ _ (by decide), up2_s, up2_k _ _ _ (by decide), up2_k _ _ _ (by decide)]
  have e15 : cutM S h n l a p (zandn x b) b 15 = fset (fset (S 15) n l) n p := by
    unfold cutM leafM; rw [up2_k _ _ _ (by decide), up2_k _ _ _ (by decide), up2_k _ _ _ (by decide), up2_k _ _ _ (by decide), up2_k _ _ _ (by decide), up2_k _ _ _ (by decide), up2_s, up2_k _ _ _ (by decide), up2_s, up2_k _ _ _ (by decide), up2_k _ _ _ (by decide), up2_k _ _ _ (by decide)]
  have e16 : cutM S h n l a p (zandn x b) b 16 = fset (S 16) n (-9) := by
    unfold cutM leafM; rw [up2_k _ _ _ (by decide), up2_k _ _ _ (by decide), up2_k _ _ _ (by decide), up2_k _ _ _ (by decide), up2_k _ _ _ (by decide), up2_k _ _ _ (by decide), up2_k _ _ _ (by decide), up2_k _ _ _ (by decide), up2_k _ _ _ (by decide), up2_k _ _ _ (by decide), up2_k _ _ _ (by decide), up2_s]
  have e17 : cutM S h n l a p (zandn x b) b 17 = fset (S 17) n (-9) := by
    unfold cutM leafM; rw [up2_k _ _ _ (by decide), up2_k _ _ _ (by decide), up2_k _ _ _ (by decide), up2_k _ _ _ (by decide), up2_k _ _ _ (by decide), up2_k _ _ _ (by decide), up2_k _ _ _ (by decide), up2_k _ _ _ (by decide), up2_k _ _ _ (by decide), up2_k _ _ _ (by decide), up2_s, up2_k _ _ _ (by decide)]
  have c0 : ∀ j, cutM S h n l a p (zandn x b) b 0 j = S 0 j := fun j => rfl
  have ko : keeps [0, 14, 15, 16, 17, 18, 19, 20] S0 (cutM S h n l a p (zandn x b) b) := (((((((((((k1.up (by decide) _ _).up (by decide) _ _).up (by decide) _ _).up (by decide) _ _).up (by decide) _ _).up (by decide) _ _).up (by decide) _ _).up (by decide) _ _).up (by decide) _ _).up (by decide) _ _).up (by decide) _ _).up (by decide) _ _
  have pwe : ∀ i, i ≤ h → pw (cutM S h n l a p (zandn x b) b 18) i = pw (S 18) i := fun i hi => pw_congr (fun q q1 q2 => by rw [e18, fset_n _ _ (by omega), fset_n _ _ (by omega)])
  have pw1 : pw (cutM S h n l a p (zandn x b) b 18) (h + 1) = pw (S 18) h + (2 * zcnt (zandn x b) - 1) := by
    rw [pw_s _ a0.1, pwe h (Int.le_refl _), e18, fset_n _ _ (by omega), fset_e]
  have pw2 : pw (cutM S h n l a p (zandn x b) b 18) (h + 2) = pw (S 18) h + (2 * zcnt (zandn x b) - 1) + (2 * zcnt b - 1) := by
    rw [show h + 2 = h + 1 + 1 by omega, pw_s _ (by omega), pw1, e18, fset_e]
  have sb : stOK S0 b := by
    obtain ⟨k, k1, k2, k3⟩ := hc.2.1.2.1
    have hbk : zbit b k := (hb.2 k k1.1).mpr ⟨k2, k3⟩
    refine ⟨⟨?_, ?_⟩, fun j hj q => g3.2 j hj ((hb.2 j hj).mp q).1⟩
    · rcases Int.lt_or_le 0 b with q | q
      · exact q
      · have : b = 0 := by have := hb.1; omega
        subst this; exact absurd hbk (zbit_0 k)
    · exact zlt_of (k := 8) hb.1 (fun j hj q => by
        have := ((hb.2 j (by omega)).mp q).1
        exact zbit_high (k := 8) (by have := g3.1; omega) (by show x < 256; exact g3.1.2) hj this)
  have sz : stOK S0 (zandn x b) := by
    obtain ⟨k, k1, k2, k3⟩ := hc.2.1.2.2
    have hx0 : 0 ≤ x := by have := g3.1; omega
    have hbk : zbit (zandn x b) k := (zbit_andn hx0 hb.1).mpr ⟨k2, fun q => by have := ((hb.2 k k1.1).mp q).2; omega⟩
    refine ⟨⟨?_, ?_⟩, fun j hj q => g3.2 j hj ((zbit_andn hx0 hb.1).mp q).1⟩
    · have h0 := zandn_nn x b
      rcases Int.lt_or_le 0 (zandn x b) with q | q
      · exact q
      · have e0 : zandn x b = 0 := by omega
        rw [e0] at hbk; exact absurd hbk (zbit_0 k)
    · have := zandn_le (a := x) (b := b) hx0
      have := g3.1.2; omega
  refine ⟨rec4 r n a p (n + 1) (n + 2 * zcnt b), ⟨⟨ko, fun j hj => by rw [c0]; exact k2 j hj⟩, by rw [c0, g1]; omega, fun i i1 i2 => ?_, fun m m1 m2 => ?_, fun i i1 i2 => ?_⟩, ?_, fun X hX => ?_⟩
  · rw [e18]
    by_cases e1 : i = h + 1
    · subst e1; rw [fset_e]; exact sb
    · rw [fset_n _ _ e1]
      by_cases e2 : i = h
      · subst e2; rw [fset_e]; exact sz
      · rw [fset_n _ _ e2]; exact b0 i i1 (by omega)
  · rw [c0, g1] at m2
    unfold ndOK
    rw [e14, e15, e16, e17, e19, e20]
    by_cases em : m = n
    · subst em
      obtain ⟨r1, r2, r3, r4⟩ := rec4_e (r := r) (n := m) (a := a) (p := p) (o := m + 1) (t := m + 2 * zcnt b)
      refine ⟨by rw [r1, fset_e], by rw [r2, fset_e], Or.inr ⟨h + 1, by omega, fset_e _ _ _, fset_e _ _ _⟩, Or.inr ⟨h, by omega, ?_, ?_⟩⟩
      · rw [fset_n _ _ (by omega), fset_e]
      · rw [fset_n _ _ (by omega), fset_e]
    · obtain ⟨q1, q2, q3, q4⟩ := c m m1 (by omega)
      obtain ⟨r1, r2, r3, r4⟩ := rec4_o (r := r) (n := n) (a := a) (p := p) (o := n + 1) (t := n + 2 * zcnt b) em
      rw [r1, r2, r3, r4, fset_n _ _ em, fset_n _ _ em, fset_n _ _ em, fset_n _ _ em, fset_n _ _ em, fset_n _ _ em]
      refine ⟨q1, q2, ?_, ?_⟩
      · rcases q3 with q3 | ⟨i, i1, i2, i3⟩
        · exact Or.inl q3
        · exact Or.inr ⟨i, by omega, by rw [fset_n _ _ (by omega), fset_n _ _ (by omega)]; exact i2, by rw [fset_n _ _ (by omega), fset_n _ _ (by omega)]; exact i3⟩
      · rcases q4 with q4 | ⟨i, i1, i2, i3⟩
        · exact Or.inl q4
        · exact Or.inr ⟨i, by omega, by rw [fset_n _ _ (by omega), fset_n _ _ (by omega)]; exact i2, by rw [fset_n _ _ (by omega), fset_n _ _ (by omega)]; exact i3⟩
  · obtain ⟨r1, r2, r3, r4⟩ := rec4_e (r := r) (n := n) (a := a) (p := p) (o := n + 1) (t := n + 2 * zcnt b)
    unfold pdOK
    rw [c0, g1]
    by_cases e1 : i = h + 1
    · right
      subst e1
      rw [e19, e20, fset_e, fset_e, show h + 1 + 1 = h + 2 by omega, pw2]
      exact ⟨by omega, Or.inl ⟨rfl, by rw [r3]; omega⟩⟩
    · by_cases e2 : i = h
      · right
        subst e2
        rw [e19, e20, fset_n _ _ (by omega), fset_e, fset_n _ _ (by omega), fset_e, pw1]
        exact ⟨by omega, Or.inr ⟨rfl, by rw [r4]; omega⟩⟩
      · rw [e19, e20, fset_n _ _ e1, fset_n _ _ e2, fset_n _ _ e1, fset_n _ _ e2, pwe (i + 1) (by omega)]
        rcases d i i1 (by omega) with q | ⟨q1, q2⟩
        · exact Or.inl q
        · right
          obtain ⟨-, -, s3, s4⟩ := rec4_o (r := r) (n := n) (a := a) (p := p) (o := n + 1) (t := n + 2 * zcnt b) (m := S 19 i) (by omega)
          rw [s3, s4]
          exact ⟨by omega, q2⟩
  · rw [c0, g1, pw2]; omega
  · refine f X (tEnd.step ⟨x, _, rfl, Or.inr (Or.inl ⟨hz, a, p, b, hc, hb, rfl⟩)⟩ ?_)
    rw [c0, g1] at hX
    have es : stk (cutM S h n l a p (zandn x b) b 18) (h + 2).toNat = b :: zandn x b :: stk (S 18) h.toNat := by
      have w1 : (h + 2).toNat = h.toNat + 2 := by omega
      have w2 : ((h.toNat : Nat) : Int) = h := by omega
      rw [w1]
      show cutM S h n l a p (zandn x b) b 18 ((h.toNat + 1 : Nat) : Int) :: cutM S h n l a p (zandn x b) b 18 ((h.toNat : Nat) : Int) :: stk _ h.toNat = _
      rw [show ((h.toNat + 1 : Nat) : Int) = h + 1 by omega, w2, e18, fset_e, fset_n _ _ (by omega), fset_e]
      congr 2
      exact stk_congr _ (fun i i1 i2 => by rw [fset_n _ _ (by omega), fset_n _ _ (by omega)])
    rw [es] at hX
    exact hX
/-- no cut -/
theorem plJ.fail {S0 S : jMem} {s0 : tst} {tot h n x : Int} (H : plJ S0 s0 tot h n x S) (hz : zand x (x - 1) ≠ 0) (hc : nocut (S0 6) (men S0) x) : ∃ r, tEnd (S0 6) (men S0) s0 ([], 0, r) := by
  obtain ⟨r, -, -, -, f⟩ := H
  exact ⟨r, f _ (tEnd.step ⟨x, _, rfl, Or.inr (Or.inr ⟨hz, hc, rfl⟩)⟩ (tEnd.here rfl))⟩
