/-! the class's cuts -/
theorem pw_toNat (l : Nat) : (2 * 2 ^ l : Int) = 1 * 2 ^ (l + 1) := by rw [Int.pow_succ]; omega
theorem pow_nn (l : Nat) : (1 : Int) ≤ 1 * 2 ^ l := by
  have : (1 * 2 ^ l : Int) = ((2 ^ l : Nat) : Int) := by simp
  rw [this]; exact_mod_cast Nat.two_pow_pos _
/-- bits from e on, below g -/
theorem zbit_rangeN {e g : Nat} (h : e ≤ g) {p : Int} (hp : 0 ≤ p) : zbit (1 * 2 ^ g - 1 * 2 ^ e) p ↔ (e : Int) ≤ p ∧ p < g := by
  have e1 : (1 * 2 ^ g - 1 * 2 ^ e : Int) = ((2 ^ e * (2 ^ (g - e) - 1) : Nat) : Int) := by
    have h1 : 2 ^ g = 2 ^ e * 2 ^ (g - e) := by rw [← Nat.pow_add]; congr 1; omega
    have h2 : 0 < 2 ^ (g - e) := Nat.two_pow_pos _
    have h3 : (2 ^ g : Int) = ((2 ^ g : Nat) : Int) := by simp
    have h4 : (2 ^ e : Int) = ((2 ^ e : Nat) : Int) := by simp
    have h5 : 2 ^ e ≤ 2 ^ g := Nat.pow_le_pow_right (by decide) h
    rw [Int.one_mul, Int.one_mul, h3, h4, Nat.mul_sub, Nat.mul_one, ← h1]; omega
  rw [e1, zbit_iff (Int.natCast_nonneg _), Int.toNat_natCast, Nat.testBit_two_pow_mul, Nat.testBit_two_pow_sub_one]
  simp only [Bool.and_eq_true, decide_eq_true_eq]; omega
theorem rng_in {e g : Int} (he : 0 ≤ e) (h : e ≤ g) (hg : g ≤ 21) : (0 : Int) ≤ 1 * 2 ^ g.toNat - 1 * 2 ^ e.toNat ∧ (1 * 2 ^ g.toNat - 1 * 2 ^ e.toNat : Int) < 2 ^ 21 ∧ (1 * 2 ^ g.toNat : Int) ≤ 2 ^ 21 ∧ (1 : Int) ≤ 1 * 2 ^ e.toNat := by
  have h1 : (2 : Nat) ^ e.toNat ≤ 2 ^ g.toNat := Nat.pow_le_pow_right (by decide) (by omega)
  have h2 : (2 : Nat) ^ g.toNat ≤ 2 ^ 21 := Nat.pow_le_pow_right (by decide) (by omega)
  have h3 := pow_nn e.toNat
  have h4 : (1 * 2 ^ g.toNat : Int) = ((2 ^ g.toNat : Nat) : Int) := by simp
  have h5 : (1 * 2 ^ e.toNat : Int) = ((2 ^ e.toNat : Nat) : Int) := by simp
  rw [h5] at h3
  rw [h4, h5]
  have h6 : (2 : Int) ^ 21 = ((2 ^ 21 : Nat) : Int) := by simp
  rw [h6]; omega
theorem two_pow (g : Int) (hg : 0 ≤ g) : (2 * 2 ^ g.toNat : Int) = 1 * 2 ^ (g + 1).toNat := by
  rw [pw_toNat, show (g + 1).toNat = g.toNat + 1 by omega]
def csOK (S : jMem) (s : Int) : Prop := (0 < s ∧ s < 256) ∧ ∀ j, 0 ≤ j → zbit s j → ∀ a, 0 ≤ a → a < 3 → 0 ≤ S 20 (j * 3 + a) ∧ S 20 (j * 3 + a) < S 21 (j * 3 + a) ∧ S 21 (j * 3 + a) ≤ 20
theorem csOK.lt {S : jMem} {s j : Int} (h : csOK S s) (hj : 0 ≤ j) (hz : zbit s j) : j < 8 := by
  rcases Int.lt_or_le j 8 with c | c
  · exact c
  · exact absurd hz (zbit_high (k := 8) (by have := h.1; omega) (by show s < 256; exact h.1.2) c)
def cpI (S : jMem) (s a k e g i : Int) : Prop := (0 ≤ e ∧ e ≤ 20) ∧ (0 ≤ g ∧ g ≤ 20) ∧ (0 ≤ i ∧ i < 2 ^ 21) ∧ (∀ j, 0 ≤ j → j < k → zbit s j → e ≤ S 21 (j * 3 + a) ∧ S 20 (j * 3 + a) ≤ g) ∧ (e = 20 ∨ ∃ j, (0 ≤ j ∧ j < k) ∧ zbit s j ∧ S 21 (j * 3 + a) = e) ∧ (g = 0 ∨ ∃ j, (0 ≤ j ∧ j < k) ∧ zbit s j ∧ S 20 (j * 3 + a) = g) ∧ ∀ p, 0 ≤ p → (zbit i p ↔ ∃ j, (0 ≤ j ∧ j < k) ∧ zbit s j ∧ S 20 (j * 3 + a) < p ∧ p < S 21 (j * 3 + a))
theorem cpI.skip {S : jMem} {s a k e g i : Int} (h : cpI S s a k e g i) (hb : ¬ zbit s k) : cpI S s a (k + 1) e g i := by
  obtain ⟨h1, h2, h3, h4, h5, h6, h7⟩ := h
  refine ⟨h1, h2, h3, fun j j1 j2 j3 => h4 j j1 ?_ j3, ?_, ?_, fun p hp => (h7 p hp).trans ⟨?_, ?_⟩⟩
  · by_cases c : j = k
    · subst c; exact absurd j3 hb
    · omega
  · rcases h5 with q | ⟨j, j1, j2⟩
    · exact Or.inl q
    · exact Or.inr ⟨j, by omega, j2⟩
  · rcases h6 with q | ⟨j, j1, j2⟩
    · exact Or.inl q
    · exact Or.inr ⟨j, by omega, j2⟩
  · rintro ⟨j, j1, j2⟩
    exact ⟨j, by omega, j2⟩
  · rintro ⟨j, j1, j2⟩
    refine ⟨j, ⟨j1.1, ?_⟩, j2⟩
    by_cases c : j = k
    · subst c; exact absurd j2.1 hb
    · omega
theorem cpI.on {S : jMem} {s a k e g i : Int} (h : cpI S s a k e g i) (hk : 0 ≤ k) (hs : 0 ≤ S 20 (k * 3 + a) ∧ S 20 (k * 3 + a) < S 21 (k * 3 + a) ∧ S 21 (k * 3 + a) ≤ 20) (hb : zbit s k) : cpI S s a (k + 1) (min e (S 21 (k * 3 + a))) (max g (S 20 (k * 3 + a))) (zor i (1 * 2 ^ (S 21 (k * 3 + a)).toNat - 2 * 2 ^ (S 20 (k * 3 + a)).toNat)) := by
  obtain ⟨h1, h2, h3, h4, h5, h6, h7⟩ := h
  have r := rng_in (e := S 20 (k * 3 + a) + 1) (g := S 21 (k * 3 + a)) (by omega) (by omega) (by omega)
  rw [two_pow _ hs.1]
  refine ⟨by omega, by omega, ⟨zor_nn _ _, zor_lt h3.1 h3.2 r.2.1⟩, fun j j1 j2 j3 => ?_, ?_, ?_, fun p hp => ?_⟩
  · by_cases c : j = k
    · subst c; omega
    · have := h4 j j1 (by omega) j3; omega
  · by_cases c : S 21 (k * 3 + a) ≤ e
    · exact Or.inr ⟨k, by omega, hb, by omega⟩
    · rcases h5 with q | ⟨j, j1, j2, j3⟩
      · omega
      · exact Or.inr ⟨j, by omega, j2, by omega⟩
  · by_cases c : g ≤ S 20 (k * 3 + a)
    · exact Or.inr ⟨k, by omega, hb, by omega⟩
    · rcases h6 with q | ⟨j, j1, j2, j3⟩
      · omega
      · exact Or.inr ⟨j, by omega, j2, by omega⟩
  · rw [zbit_or h3.1 r.1, h7 p hp, zbit_rangeN (by omega) hp]
    constructor
    · rintro (⟨j, j1, j2⟩ | q)
      · exact ⟨j, by omega, j2⟩
      · exact ⟨k, by omega, hb, by omega, by omega⟩
    · rintro ⟨j, j1, j2, j3⟩
      by_cases c : j = k
      · subst c; exact Or.inr (by omega)
      · exact Or.inl ⟨j, by omega, j2, j3⟩
/-- the answer of cutPlaces -/
def cpA (S : jMem) (s a v : Int) : Prop := (0 ≤ v ∧ v < 2 ^ 21) ∧ ∀ p, 0 ≤ p → (zbit v p ↔ isCut (S 20) (S 21) s a p)
theorem cpI.none {S : jMem} {s a e g i : Int} (h : cpI S s a 8 e g i) (hs : csOK S s) (hg : g < e) : cpA S s a 0 := by
  refine ⟨by omega, fun p hp => ⟨fun q => absurd q (zbit_0 p), fun hc => ?_⟩⟩
  obtain ⟨c1, ⟨j, j1, j2, j3⟩, ⟨k, k1, k2, k3⟩⟩ := hc
  have a1 := h.2.2.2.1 j j1.1 j1.2 j2
  have a2 := h.2.2.2.1 k k1.1 k1.2 k2
  rcases c1 k k1.1 k1.2 k2 with q | q <;> omega
theorem cpI.some {S : jMem} {s a e g i : Int} (h : cpI S s a 8 e g i) (hs : csOK S s) (ha : 0 ≤ a ∧ a < 3) (hg : ¬ g < e) : cpA S s a (zandn (2 * 2 ^ g.toNat - 1 * 2 ^ e.toNat) i) := by
  obtain ⟨h1, h2, h3, h4, h5, h6, h7⟩ := h
  have r := rng_in (e := e) (g := g + 1) (by omega) (by omega) (by omega)
  rw [two_pow _ h2.1]
  refine ⟨⟨zandn_nn _ _, ?_⟩, fun p hp => ?_⟩
  · have := zandn_le (a := 1 * 2 ^ (g + 1).toNat - 1 * 2 ^ e.toNat) (b := i) r.1
    omega
  · rw [zbit_andn r.1 h3.1, zbit_rangeN (by omega) hp, h7 p hp]
    constructor
    · rintro ⟨q1, q2⟩
      refine ⟨fun k k1 k2 k3 => ?_, ?_, ?_⟩
      · rcases Int.lt_or_le p (S 21 (k * 3 + a)) with c | c
        · right
          rcases Int.lt_or_le (S 20 (k * 3 + a)) p with d | d
          · exact absurd ⟨k, ⟨k1, k2⟩, k3, d, c⟩ q2
          · exact d
        · exact Or.inl c
      · rcases h5 with q | ⟨j, j1, j2, j3⟩
        · rcases h6 with w | ⟨j, j1, j2, j3⟩
          · omega
          · have := hs.2 j j1.1 j2 a ha.1 ha.2; omega
        · exact ⟨j, j1, j2, by omega⟩
      · rcases h6 with q | ⟨j, j1, j2, j3⟩
        · rcases h5 with w | ⟨j, j1, j2, j3⟩
          · omega
          · have := hs.2 j j1.1 j2 a ha.1 ha.2; omega
        · have := hs.2 j j1.1 j2 a ha.1 ha.2
          exact ⟨j, j1, j2, by omega⟩
    · rintro ⟨c1, ⟨j, j1, j2, j3⟩, ⟨k, k1, k2, k3⟩⟩
      have a1 := h4 j j1.1 j1.2 j2
      have a2 := h4 k k1.1 k1.2 k2
      refine ⟨?_, fun ⟨q, q1, q2, q3, q4⟩ => ?_⟩
      · rcases c1 k k1.1 k1.2 k2 with q | q
        · omega
        · omega
      · rcases c1 q q1.1 q1.2 q2 with w | w <;> omega
/-- who is before, below k -/
def cbI (S : jMem) (s a p k x : Int) : Prop := (0 ≤ x ∧ x < 256) ∧ ∀ j, 0 ≤ j → (zbit x j ↔ j < k ∧ zbit s j ∧ S 21 (j * 3 + a) ≤ p)
theorem cbI.skip {S : jMem} {s a p k x : Int} (h : cbI S s a p k x) (hb : ¬ (zbit s k ∧ S 21 (k * 3 + a) ≤ p)) : cbI S s a p (k + 1) x := by
  refine ⟨h.1, fun j hj => (h.2 j hj).trans ⟨fun q => ⟨by omega, q.2⟩, fun q => ⟨?_, q.2⟩⟩⟩
  by_cases e : j = k
  · subst e; exact absurd q.2 hb
  · omega
theorem cbI.on {S : jMem} {s a p k x : Int} (h : cbI S s a p k x) (hk : 0 ≤ k ∧ k < 8) (hb : zbit s k) (he : S 21 (k * 3 + a) ≤ p) : cbI S s a p (k + 1) (zor x (1 * 2 ^ k.toNat)) := by
  refine ⟨⟨zor_nn _ _, zor_lt (k := 8) h.1.1 h.1.2 (zpow_lt (k := 8) hk.1 hk.2).2⟩, fun j hj => ?_⟩
  rw [zbit_zor h.1.1 hk.1 hj, h.2 j hj]
  constructor
  · rintro (q | q)
    · exact ⟨by omega, q.2⟩
    · subst q; exact ⟨by omega, hb, he⟩
  · intro q
    by_cases e : j = k
    · exact Or.inr e
    · exact Or.inl ⟨by omega, q.2⟩
theorem cbI.done {S : jMem} {s a p x : Int} (h : cbI S s a p 8 x) (hs : csOK S s) : (0 ≤ x ∧ x < 256) ∧ isBef (S 21) s a p x := ⟨h.1, h.1.1, fun j hj => (h.2 j hj).trans ⟨fun q => q.2, fun q => ⟨hs.lt hj q.1, q⟩⟩⟩
/-- the answer of axisOfCut -/
def axA (S : jMem) (s v : Int) : Prop := ((0 ≤ v ∧ v < 3) ∧ (∃ p, 0 ≤ p ∧ isCut (S 20) (S 21) s v p) ∧ ∀ a p, 0 ≤ a → a < v → ¬ isCut (S 20) (S 21) s a p) ∨ (nocut (S 20) (S 21) s ∧ v = -9)
theorem isCut.nn {S : jMem} {s a p : Int} (hs : csOK S s) (ha : 0 ≤ a ∧ a < 3) (h : isCut (S 20) (S 21) s a p) : 0 ≤ p := by
  obtain ⟨-, ⟨j, j1, j2, j3⟩, -⟩ := h
  have := hs.2 j j1.1 j2 a ha.1 ha.2
  omega
theorem cpA.no {S : jMem} {s a : Int} (h : cpA S s a 0) (hs : csOK S s) (ha : 0 ≤ a ∧ a < 3) : ∀ p, ¬ isCut (S 20) (S 21) s a p := fun p hc => zbit_0 p ((h.2 p (isCut.nn hs ha hc)).mpr hc)
theorem cpA.yes {S : jMem} {s a v : Int} (h : cpA S s a v) (hv : v ≠ 0) : ∃ p, 0 ≤ p ∧ isCut (S 20) (S 21) s a p := by
  obtain ⟨l, hl⟩ := isLow.ex (x := v) (by have := h.1; omega)
  exact ⟨l, hl.1, (h.2 l hl.1).mp hl.2.1⟩
/-- the cut that the class takes -/
theorem cpA.first {S : jMem} {s a v l : Int} (h : cpA S s a v) (hs : csOK S s) (ha : 0 ≤ a ∧ a < 3) (hl : isLow v l) (hn : ∀ a' p, 0 ≤ a' → a' < a → ¬ isCut (S 20) (S 21) s a' p) : fcut (S 20) (S 21) s a l := by
  refine ⟨ha, (h.2 l hl.1).mp hl.2.1, fun a' p' a1 a2 a3 hc => ?_⟩
  rcases a3 with q | ⟨q1, q2⟩
  · exact hn a' p' a1 q hc
  · subst q1
    have hp := isCut.nn hs ha hc
    exact hl.2.2 p' hp q2 ((h.2 p' hp).mpr hc)
/-! the class's rows of sets -/
noncomputable def zs (f : Int → Int) (hi : Int) : Int := isum (fun q => zcnt (f q)) 0 hi.toNat
theorem zs_0 (f : Int → Int) : zs f 0 = 0 := rfl
theorem zs_s (f : Int → Int) {h : Int} (hh : 0 ≤ h) : zs f (h + 1) = zs f h + zcnt (f h) := by
  unfold zs
  rw [show (h + 1).toNat = h.toNat + 1 by omega, isum_last, Int.zero_add, Int.toNat_of_nonneg hh]
theorem zs_congr {f g : Int → Int} {h : Int} (e : ∀ i, 0 ≤ i → i < h → f i = g i) : zs f h = zs g h := by
  unfold zs
  exact isum_congr _ 0 (fun j a b => by rw [e j a (by omega)])
theorem zs_lb {f : Int → Int} : ∀ h : Nat, (∀ i : Int, 0 ≤ i → i < h → 1 ≤ zcnt (f i)) → (h : Int) ≤ zs f h
  | 0, _ => by rw [show ((0 : Nat) : Int) = 0 from rfl, zs_0]; omega
  | h + 1, e => by
    have h1 := zs_lb h (fun i a b => e i a (by omega))
    have h2 := e h (by omega) (by omega)
    rw [show ((h + 1 : Nat) : Int) = (h : Int) + 1 by omega, zs_s f (by omega)]; omega
theorem csOK.pos {S : jMem} {x : Int} (h : csOK S x) : 1 ≤ zcnt x := by
  obtain ⟨l, hl⟩ := isLow.ex h.1.1
  have hh := h.1
  have := hl.lt (k := 8) (by omega) (by show x < 256; omega)
  exact zcnt_pos hl.2.1 (by have := hl.1; omega)
theorem csOK.two {S : jMem} {x : Int} (h : csOK S x) (hz : zand x (x - 1) ≠ 0) : 2 ≤ zcnt x := by
  obtain ⟨l, hl⟩ := isLow.ex h.1.1
  have hh := h.1
  have l8 := hl.lt (k := 8) (by omega) (by show x < 256; omega)
  have l0 := hl.1
  have hp : (0 : Int) ≤ 1 * 2 ^ l.toNat := by have := pow_nn l.toNat; omega
  have e := zcnt_part (s := x) (b := 1 * 2 ^ l.toNat) (by omega) hp (fun j hj q => by rw [(zbit_pow hl.1 hj).mp q]; exact hl.2.1)
  rw [zcnt_pow (by omega)] at e
  have hn := zandn_nn x (1 * 2 ^ l.toNat)
  have hne : zandn x (1 * 2 ^ l.toNat) ≠ 0 := fun q => hz ((single_iff h.1.1 hl).mpr (zbit_ext (by omega) hp (fun j hj => by
    rw [zbit_pow hl.1 hj]
    have h2 := zbit_zandn (m := x) (n := l) (j := j) (by omega) hl.1 hj
    rw [q] at h2
    constructor
    · intro w
      by_cases c : j = l
      · exact c
      · exact absurd (h2.mpr ⟨w, c⟩) (zbit_0 j)
    · intro w; rw [w]; exact hl.2.1)))
  obtain ⟨m, hm⟩ := isLow.ex (x := zandn x (1 * 2 ^ l.toNat)) (by omega)
  have hle := zandn_le (a := x) (b := 1 * 2 ^ l.toNat) (by omega)
  have m8 := hm.lt (k := 8) hn (by show _ < (256 : Int); omega)
  have := zcnt_pos hm.2.1 (by have := hm.1; omega)
  omega
def clI (S0 : jMem) (s0 : tst) (tot h n : Int) (S : jMem) : Prop := keeps [23, 24] S0 S ∧ (0 ≤ h ∧ 0 ≤ n ∧ tot ≤ 15 ∧ zs (S 24) h ≤ 8 ∧ n + 2 * zs (S 24) h - h = tot) ∧ (∀ i, 0 ≤ i → i < h → csOK S0 (S 24 i)) ∧ ∃ r, (∀ m, 0 ≤ m → m < n → S 23 (m * 4) = r (m * 4) ∧ S 23 (m * 4 + 1) = r (m * 4 + 1) ∧ S 23 (m * 4 + 2) = r (m * 4 + 2) ∧ S 23 (m * 4 + 3) = r (m * 4 + 3)) ∧ ∀ X, tEnd (S0 20) (S0 21) (stk (S 24) h.toNat, n, r) X → tEnd (S0 20) (S0 21) s0 X
theorem clI.bd {S0 S : jMem} {s0 : tst} {tot h n : Int} (H : clI S0 s0 tot h n S) : (0 ≤ h ∧ 0 ≤ n) ∧ n + h ≤ 15 ∧ h ≤ 8 := by
  obtain ⟨-, a, b, -⟩ := H
  have hh : h = ((h.toNat : Nat) : Int) := by omega
  have := zs_lb (f := S 24) h.toNat (fun i i1 i2 => (b i i1 (by omega)).pos)
  rw [← hh] at this; omega
theorem clI.top {S0 S : jMem} {s0 : tst} {tot h n : Int} (H : clI S0 s0 tot h n S) (hh : 0 < h) : csOK S0 (S 24 (h - 1)) ∧ (zand (S 24 (h - 1)) (S 24 (h - 1) - 1) ≠ 0 → h + 1 ≤ 8) := by
  obtain ⟨-, a, b, -⟩ := H
  have ht := b (h - 1) (by omega) (by omega)
  refine ⟨ht, fun hz => ?_⟩
  have h2 := ht.two hz
  have e1 : (((h - 1).toNat : Nat) : Int) = h - 1 := by omega
  have := zs_lb (f := S 24) (h - 1).toNat (fun i i1 i2 => (b i i1 (by omega)).pos)
  rw [e1] at this
  have e := zs_s (S 24) (h := h - 1) (by omega)
  rw [show h - 1 + 1 = h by omega] at e
  omega
def wrM (S : jMem) (n a p o t : Int) : jMem := up2 (up2 (up2 (up2 S 23 (n * 4) a) 23 (n * 4 + 1) p) 23 (n * 4 + 2) o) 23 (n * 4 + 3) t
theorem wrM.c {S : jMem} {n a p o t : Int} : wrM S n a p o t 23 = rec4 (S 23) n a p o t := by
  unfold wrM rec4; rw [up2_s, up2_s, up2_s, up2_s]
theorem rec4_ag {f r : Int → Int} {n a p o t : Int} (h : ∀ m, 0 ≤ m → m < n → f (m * 4) = r (m * 4) ∧ f (m * 4 + 1) = r (m * 4 + 1) ∧ f (m * 4 + 2) = r (m * 4 + 2) ∧ f (m * 4 + 3) = r (m * 4 + 3)) : ∀ m, 0 ≤ m → m < n + 1 → rec4 f n a p o t (m * 4) = rec4 r n a p o t (m * 4) ∧ rec4 f n a p o t (m * 4 + 1) = rec4 r n a p o t (m * 4 + 1) ∧ rec4 f n a p o t (m * 4 + 2) = rec4 r n a p o t (m * 4 + 2) ∧ rec4 f n a p o t (m * 4 + 3) = rec4 r n a p o t (m * 4 + 3) := fun m m1 m2 => by
  by_cases e : m = n
  · subst e
    obtain ⟨a1, a2, a3, a4⟩ := rec4_e (r := f) (n := m) (a := a) (p := p) (o := o) (t := t)
    obtain ⟨b1, b2, b3, b4⟩ := rec4_e (r := r) (n := m) (a := a) (p := p) (o := o) (t := t)
    rw [a1, a2, a3, a4, b1, b2, b3, b4]; exact ⟨rfl, rfl, rfl, rfl⟩
  · obtain ⟨a1, a2, a3, a4⟩ := rec4_o (r := f) (n := n) (a := a) (p := p) (o := o) (t := t) e
    obtain ⟨b1, b2, b3, b4⟩ := rec4_o (r := r) (n := n) (a := a) (p := p) (o := o) (t := t) e
    rw [a1, a2, a3, a4, b1, b2, b3, b4]; exact h m m1 (by omega)
theorem stk_top {f : Int → Int} {h : Int} (hh : 0 < h) : stk f h.toNat = f (h - 1) :: stk f (h - 1).toNat := by
  have e1 : h.toNat = (h - 1).toNat + 1 := by omega
  have e2 : (((h - 1).toNat : Nat) : Int) = h - 1 := by omega
  rw [e1]
  show f ((h - 1).toNat : Nat) :: _ = _
  rw [e2]
theorem clI.leaf {S0 S : jMem} {s0 : tst} {tot h n l : Int} (H : clI S0 s0 tot h n S) (hh : 0 < h) (hl : isLow (S 24 (h - 1)) l) (hx : S 24 (h - 1) = 1 * 2 ^ l.toNat) : clI S0 s0 tot (h - 1) (n + 1) (wrM S n (-9) l (-9) (-9)) := by
  have ht := (H.top hh).1
  obtain ⟨k, a, b, r, c, d⟩ := H
  have e := zs_s (S 24) (h := h - 1) (by omega)
  have l8 := hl.lt (k := 8) (by have := ht.1; omega) (by show _ < (256 : Int); exact ht.1.2)
  rw [show h - 1 + 1 = h by omega, hx, zcnt_pow (by have := hl.1; omega)] at e
  rw [stk_top hh] at d
  have c24 : wrM S n (-9) l (-9) (-9) 24 = S 24 := rfl
  refine ⟨(((k.up (by decide) _ _).up (by decide) _ _).up (by decide) _ _).up (by decide) _ _, by rw [c24]; omega, fun i i1 i2 => b i i1 (by omega), _, by rw [wrM.c]; exact rec4_ag c, fun X hX => d X (tEnd.step ⟨_, _, rfl, Or.inl ⟨l, hl, hx, rfl⟩⟩ ?_)⟩
  rw [c24] at hX
  exact hX
theorem clI.cut {S0 S : jMem} {s0 : tst} {tot h n a p b : Int} (H : clI S0 s0 tot h n S) (hh : 0 < h) (hz : zand (S 24 (h - 1)) (S 24 (h - 1) - 1) ≠ 0) (hc : fcut (S0 20) (S0 21) (S 24 (h - 1)) a p) (hb : isBef (S0 21) (S 24 (h - 1)) a p b) : clI S0 s0 tot (h + 1) (n + 1) (up2 (up2 (wrM S n a p (n + 1) (n + 2 * zcnt b)) 24 (h - 1) (zandn (S 24 (h - 1)) b)) 24 h b) := by
  have ht := (H.top hh).1
  obtain ⟨k, a0, b0, r, c, d⟩ := H
  have e := zs_s (S 24) (h := h - 1) (by omega)
  rw [show h - 1 + 1 = h by omega] at e
  rw [stk_top hh] at d
  have hx0 : 0 ≤ S 24 (h - 1) := by have := ht.1; omega
  have hzc := zcnt_part (s := S 24 (h - 1)) (b := b) hx0 hb.1 (fun j hj q => ((hb.2 j hj).mp q).1)
  have c24 : up2 (up2 (wrM S n a p (n + 1) (n + 2 * zcnt b)) 24 (h - 1) (zandn (S 24 (h - 1)) b)) 24 h b 24 = fset (fset (S 24) (h - 1) (zandn (S 24 (h - 1)) b)) h b := by rw [up2_s, up2_s]; rfl
  have c23 : up2 (up2 (wrM S n a p (n + 1) (n + 2 * zcnt b)) 24 (h - 1) (zandn (S 24 (h - 1)) b)) 24 h b 23 = rec4 (S 23) n a p (n + 1) (n + 2 * zcnt b) := by rw [up2_k _ _ _ (by decide), up2_k _ _ _ (by decide), wrM.c]
  have zsA : zs (fset (fset (S 24) (h - 1) (zandn (S 24 (h - 1)) b)) h b) (h - 1) = zs (S 24) (h - 1) := zs_congr (fun i i1 i2 => by rw [fset_n _ _ (by omega), fset_n _ _ (by omega)])
  have zsB := zs_s (fset (fset (S 24) (h - 1) (zandn (S 24 (h - 1)) b)) h b) (h := h - 1) (by omega)
  have zsC := zs_s (fset (fset (S 24) (h - 1) (zandn (S 24 (h - 1)) b)) h b) (h := h) (by omega)
  rw [show h - 1 + 1 = h by omega, fset_n _ _ (show h - 1 ≠ h by omega), fset_e, zsA] at zsB
  rw [fset_e] at zsC
  have sb : csOK S0 b := by
    obtain ⟨k, k1, k2, k3⟩ := hc.2.1.2.1
    have hbk : zbit b k := (hb.2 k k1.1).mpr ⟨k2, k3⟩
    refine ⟨⟨?_, ?_⟩, fun j hj q => ht.2 j hj ((hb.2 j hj).mp q).1⟩
    · rcases Int.lt_or_le 0 b with q | q
      · exact q
      · have : b = 0 := by have := hb.1; omega
        subst this; exact absurd hbk (zbit_0 k)
    · exact zlt_of (k := 8) hb.1 (fun j hj q => by
        have := ht.lt (j := j) (by omega) ((hb.2 j (by omega)).mp q).1
        omega)
  have sz : csOK S0 (zandn (S 24 (h - 1)) b) := by
    obtain ⟨k, k1, k2, k3⟩ := hc.2.1.2.2
    have hbk : zbit (zandn (S 24 (h - 1)) b) k := (zbit_andn hx0 hb.1).mpr ⟨k2, fun q => by have := ((hb.2 k k1.1).mp q).2; omega⟩
    refine ⟨⟨?_, ?_⟩, fun j hj q => ht.2 j hj ((zbit_andn hx0 hb.1).mp q).1⟩
    · have h0 := zandn_nn (S 24 (h - 1)) b
      rcases Int.lt_or_le 0 (zandn (S 24 (h - 1)) b) with q | q
      · exact q
      · have e0 : zandn (S 24 (h - 1)) b = 0 := by omega
        rw [e0] at hbk; exact absurd hbk (zbit_0 k)
    · have := zandn_le (a := S 24 (h - 1)) (b := b) hx0
      have := ht.1.2; omega
  refine ⟨(((((k.up (by decide) _ _).up (by decide) _ _).up (by decide) _ _).up (by decide) _ _).up (by decide) _ _).up (by decide) _ _, by rw [c24]; omega, fun i i1 i2 => ?_, _, by rw [c23]; exact rec4_ag c, fun X hX => d X (tEnd.step ⟨_, _, rfl, Or.inr (Or.inl ⟨hz, a, p, b, hc, hb, rfl⟩)⟩ ?_)⟩
  · rw [c24]
    by_cases e1 : i = h
    · subst e1; rw [fset_e]; exact sb
    · rw [fset_n _ _ e1]
      by_cases e2 : i = h - 1
      · subst e2; rw [fset_e]; exact sz
      · rw [fset_n _ _ e2]; exact b0 i i1 (by omega)
  · rw [c24] at hX
    have es : stk (fset (fset (S 24) (h - 1) (zandn (S 24 (h - 1)) b)) h b) (h + 1).toNat = b :: zandn (S 24 (h - 1)) b :: stk (S 24) (h - 1).toNat := by
      rw [stk_top (by omega), show h + 1 - 1 = h by omega, stk_top hh, fset_e, fset_n _ _ (show h - 1 ≠ h by omega), fset_e]
      congr 2
      exact stk_congr _ (fun i i1 i2 => by rw [fset_n _ _ (by omega), fset_n _ _ (by omega)])
    rw [es] at hX
    exact hX
def cuEnd (S0 : jMem) (m v : Int) (S : jMem) : Prop := ∃ X : tst, tEnd (S0 20) (S0 21) (tinit m) X ∧ v = X.2.1 ∧ (0 ≤ v ∧ v ≤ 15) ∧ (∀ k, 0 ≤ k → k < v → S 23 (k * 4) = X.2.2 (k * 4) ∧ S 23 (k * 4 + 1) = X.2.2 (k * 4 + 1) ∧ S 23 (k * 4 + 2) = X.2.2 (k * 4 + 2) ∧ S 23 (k * 4 + 3) = X.2.2 (k * 4 + 3)) ∧ keeps [23, 24] S0 S
theorem clI.fin {S0 S : jMem} {tot h n m : Int} (H : clI S0 (tinit m) tot h n S) (hh : h ≤ 0) : cuEnd S0 m n S := by
  have hb := H.bd
  obtain ⟨k, a, b, r, c, d⟩ := H
  have e0 : h = 0 := by omega
  subst e0
  exact ⟨_, d _ (tEnd.here rfl), rfl, by omega, c, k⟩
theorem clI.fail {S0 S S' : jMem} {tot h n m : Int} (H : clI S0 (tinit m) tot h n S) (hh : 0 < h) (hz : zand (S 24 (h - 1)) (S 24 (h - 1) - 1) ≠ 0) (hc : nocut (S0 20) (S0 21) (S 24 (h - 1))) (hk : keeps [23, 24] S0 S') : cuEnd S0 m 0 S' := by
  obtain ⟨k, a, b, r, c, d⟩ := H
  rw [stk_top hh] at d
  exact ⟨_, d _ (tEnd.step ⟨_, _, rfl, Or.inr (Or.inr ⟨hz, hc, rfl⟩)⟩ (tEnd.here rfl)), rfl, by omega, fun k h1 h2 => by omega, hk⟩
