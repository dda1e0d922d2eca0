def lcv (a b : Int) : Int := if b < a then 1 else if a = b then 0 else -1
theorem lcv_is (a b : Int) : (-1 ≤ lcv a b ∧ lcv a b ≤ 1) ∧ (0 ≤ lcv a b ↔ b ≤ a) ∧ (lcv a b ≤ 0 ↔ a ≤ b) := by
  unfold lcv
  by_cases h : b < a
  · rw [if_pos h]; omega
  · rw [if_neg h]
    by_cases h2 : a = b
    · rw [if_pos h2]; omega
    · rw [if_neg h2]; omega
theorem J_lcmpv {E : jEnv} {G : jG} {cc : ByteArray} {nL : Nat} {own : String} {fr lo : Nat} {pc : Nat} {lv : List (Nat × Value)} {st : List Value} {S : jMem} (C : jX E G cc nL own fr lo) {a b : Int} (hd : decode cc pc = .ok (.lcmp, 1)) (ha : inL a) (hb : inL b) (k : J E G (pc + 1) lv (.int (iI (lcv a b)) :: st) S) : J E G pc lv (.long (iL b) :: .long (iL a) :: st) S := J_lcmp C hd ha hb k
/-- the model's least so far -/
def mnI (has : Int) (P : Int → Prop) (v : Int → Int) (t ls so : Int) : Prop := (so = 0 ∧ ls = has + 1 ∧ ∀ u, 0 ≤ u → u < t → ¬ P u) ∨ (so = 1 ∧ (∀ u, 0 ≤ u → u < t → P u → ls ≤ v u) ∧ ∃ u, (0 ≤ u ∧ u < t) ∧ P u ∧ ls = v u)
theorem mnI.skip {has t ls so : Int} {P : Int → Prop} {v : Int → Int} (h : mnI has P v t ls so) (hp : ¬ P t) : mnI has P v (t + 1) ls so := by
  rcases h with ⟨a, b, c⟩ | ⟨a, b, u, d, e⟩
  · exact Or.inl ⟨a, b, fun u h1 h2 => by
      by_cases q : u = t
      · subst q; exact hp
      · exact c u h1 (by omega)⟩
  · exact Or.inr ⟨a, fun w h1 h2 h3 => by
      by_cases q : w = t
      · subst q; exact absurd h3 hp
      · exact b w h1 (by omega) h3, u, by omega, e⟩
theorem mnI.keep {has t ls so : Int} {P : Int → Prop} {v : Int → Int} (h : mnI has P v t ls so) (hs : ¬ so = 0) (hv : ls < v t) : mnI has P v (t + 1) ls 1 := by
  rcases h with ⟨a, b, c⟩ | ⟨a, b, u, d, e⟩
  · exact absurd a hs
  · exact Or.inr ⟨rfl, fun w h1 h2 h3 => by
      by_cases q : w = t
      · subst q; omega
      · exact b w h1 (by omega) h3, u, by omega, e⟩
theorem mnI.new {has t ls so : Int} {P : Int → Prop} {v : Int → Int} (h : mnI has P v t ls so) (ht : 0 ≤ t) (hp : P t) (hs : so = 0 ∨ v t ≤ ls) : mnI has P v (t + 1) (v t) 1 := by
  refine Or.inr ⟨rfl, fun w h1 h2 h3 => ?_, t, by omega, hp, rfl⟩
  by_cases q : w = t
  · subst q; omega
  · rcases h with ⟨a, b, c⟩ | ⟨a, b, u, d, e⟩
    · exact absurd h3 (c w h1 (by omega))
    · have := b w h1 (by omega) h3
      omega
theorem mnI.done {n : Int} {len sid tb wt : Int → Int} (hk : sOK n len sid tb wt) {n0 n1 n2 b ls so : Int} (hb : 0 ≤ b ∧ b < 8) (h0 : 0 ≤ n0 ∧ n0 ≤ len 0 / 2 * 2) (h1 : 0 ≤ n1 ∧ n1 ≤ len 1 / 2 * 2) (h2 : 0 ≤ n2 ∧ n2 ≤ len 2 / 2 * 2) (h : mnI (phas3 len n0 n1 n2) (fun t => phas tb b t ∧ pshort len sid b t) (fun t => pprod len sid n0 n1 n2 b t) 6 ls so) : isLeast len sid tb n0 n1 n2 b ls := by
  rcases h with ⟨a, e, c⟩ | ⟨a, c, u, d, p, e⟩
  · exact ⟨by omega, fun t ht => absurd ht.2 (c t ht.1.1 ht.1.2), Or.inl e⟩
  · have := (prod_in hk hb p.2 h0 h1 h2).2
    exact ⟨by rw [e]; show pprod len sid n0 n1 n2 b u ≤ _; omega, fun t ht => c t ht.1.1 ht.1.2 ht.2, Or.inr ⟨u, ⟨d, p⟩, e⟩⟩
theorem zbit_all {n b : Int} (hn : 0 ≤ n ∧ n ≤ 8) (hb : 0 ≤ b ∧ b < n) : zbit (pall n) b ∧ zbit 255 b := by
  obtain ⟨x, rfl⟩ := Int.eq_ofNat_of_zero_le hn.1
  obtain ⟨y, rfl⟩ := Int.eq_ofNat_of_zero_le hb.1
  have hz : ((List.range 9).all fun x => (List.range 8).all fun y => !decide (y < x) || (decide ((1 * 2 ^ x - 1 : Int) / 2 ^ y % 2 = 1) && decide ((255 : Int) / 2 ^ y % 2 = 1))) = true := by decide
  have h1 := List.all_eq_true.mp (List.all_eq_true.mp hz x (List.mem_range.mpr (by omega))) y (List.mem_range.mpr (by omega))
  simp only [Bool.or_eq_true, Bool.and_eq_true, Bool.not_eq_true', decide_eq_true_eq, decide_eq_false_iff_not] at h1
  rcases h1 with h1 | h1
  · omega
  · exact h1
theorem pneed_255 {n : Int} {len sid tb : Int → Int} (hn : 0 ≤ n ∧ n ≤ 8) (n0 n1 n2 : Int) : pneed n len sid tb n0 n1 n2 255 = pneed n len sid tb n0 n1 n2 (pall n) := by
  unfold pneed
  refine isum_congr _ _ (fun j h1 h2 => ?_)
  have := zbit_all hn (b := j) (by omega)
  rw [bb_mul_t this.1, bb_mul_t this.2]
theorem need_in2 {n : Int} {len sid tb wt : Int → Int} (hk : sOK n len sid tb wt) {n0 n1 n2 m : Int} (h0 : 0 ≤ n0 ∧ n0 ≤ len 0 / 2 * 2) (h1 : 0 ≤ n1 ∧ n1 ≤ len 1 / 2 * 2) (h2 : 0 ≤ n2 ∧ n2 ≤ len 2 / 2 * 2) : 0 ≤ pneed n len sid tb n0 n1 n2 m ∧ pneed n len sid tb n0 n1 n2 m ≤ 8 * 64001 := by
  have hn := hk.1
  have hh := has_in hk.2.1 h0 h1 h2
  have := isum_in (f := fun b => bb (zbit m b) * pleast len sid tb n0 n1 n2 b) (B := 64001) (n - 0).toNat 0 (fun j a1 a2 => ?_)
  · unfold pneed
    have e : (((n - 0).toNat : Nat) : Int) * 64001 ≤ 8 * 64001 := by omega
    omega
  · obtain ⟨r, hr⟩ := isLeast_ex len sid tb n0 n1 n2 j
    try dsimp only
    rw [pleast_eq hr]
    have h3 : 0 ≤ r ∧ r ≤ 64001 := by
      refine ⟨?_, by have := hr.1; omega⟩
      rcases hr.2.2 with e | ⟨t, ht, e⟩
      · omega
      · rw [e]; exact (prod_in hk (by omega) ht.2.2 h0 h1 h2).1
    have hb := bb_in (zbit m j)
    have := mul_in hb h3
    omega
