/-! the class's search: order, sets of coordinates -/
theorem iI_zorU {a b : Int} (ha : 0 ≤ a) (hb : 0 ≤ b) : iI a ||| iI b = iI (zor a b) := by
  obtain ⟨x, rfl⟩ := Int.eq_ofNat_of_zero_le ha
  obtain ⟨y, rfl⟩ := Int.eq_ofNat_of_zero_le hb
  apply Int32.toBitVec.inj
  unfold zor
  rw [Int32.toBitVec_or, iI_bvn, iI_bvn, iI_bvn]
  apply BitVec.eq_of_getLsbD_eq
  intro i hi
  rw [BitVec.getLsbD_or, BitVec.getLsbD_ofNat, BitVec.getLsbD_ofNat, BitVec.getLsbD_ofNat, Int.toNat_natCast, Int.toNat_natCast, Nat.testBit_or]
  simp [hi]
theorem iI_zandU {a b : Int} (ha : 0 ≤ a) (hb : 0 ≤ b) : iI a &&& iI b = iI (zand a b) := by
  obtain ⟨x, rfl⟩ := Int.eq_ofNat_of_zero_le ha
  obtain ⟨y, rfl⟩ := Int.eq_ofNat_of_zero_le hb
  apply Int32.toBitVec.inj
  unfold zand
  rw [Int32.toBitVec_and, iI_bvn, iI_bvn, iI_bvn]
  apply BitVec.eq_of_getLsbD_eq
  intro i hi
  rw [BitVec.getLsbD_and, BitVec.getLsbD_ofNat, BitVec.getLsbD_ofNat, BitVec.getLsbD_ofNat, Int.toNat_natCast, Int.toNat_natCast, Nat.testBit_and]
  simp [hi]
theorem mulp_nn {x : Int} (hx : 0 ≤ x) (e : Nat) : 0 ≤ x * 2 ^ e := Int.mul_nonneg hx (Int.le_of_lt (Int.pow_pos (by decide)))
theorem zbit_shl {x e p : Int} (hx : 0 ≤ x) (he : 0 ≤ e) (hp : 0 ≤ p) : zbit (x * 2 ^ e.toNat) p ↔ e ≤ p ∧ zbit x (p - e) := by
  obtain ⟨n, rfl⟩ := Int.eq_ofNat_of_zero_le hx
  rw [zbit_iff (mulp_nn hx _), zbit_iff hx]
  have e1 : ((n : Int) * 2 ^ e.toNat).toNat = 2 ^ e.toNat * n := by
    have : ((n : Int) * 2 ^ e.toNat) = ((n * 2 ^ e.toNat : Nat) : Int) := by simp
    rw [this, Int.toNat_natCast, Nat.mul_comm]
  rw [e1, Nat.testBit_two_pow_mul, Int.toNat_natCast]
  simp only [Bool.and_eq_true, decide_eq_true_eq]
  constructor
  · rintro ⟨a, b⟩
    exact ⟨by omega, by rw [show (p - e).toNat = p.toNat - e.toNat by omega]; exact b⟩
  · rintro ⟨a, b⟩
    exact ⟨by omega, by rw [show (p - e).toNat = p.toNat - e.toNat by omega] at b; exact b⟩
/-- k goes down by moving -/
def shI (vol f : Int → Int) (k i : Int) (g : Int → Int) : Prop := (0 ≤ i ∧ i ≤ k) ∧ (∀ j, 0 ≤ j → j < i → g j = f j) ∧ (∀ j, i < j → j ≤ k → g j = f (j - 1)) ∧ ∀ j, i ≤ j → j < k → vol (f j) < vol k
theorem shI.step {vol f g : Int → Int} {k i : Int} (h : shI vol f k i g) (hi : 0 < i) (hv : vol (f (i - 1)) < vol k) : shI vol f k (i - 1) (fset g i (g (i - 1))) := by
  obtain ⟨a1, a2, a4, a5⟩ := h
  refine ⟨by omega, fun j b1 b2 => by rw [fset_n _ _ (by omega)]; exact a2 j b1 (by omega), fun j b1 b2 => ?_, fun j b1 b2 => ?_⟩
  · by_cases e : j = i
    · subst e; rw [fset_e, a2 (j - 1) (by omega) (by omega)]
    · rw [fset_n _ _ e]; exact a4 j (by omega) b2
  · by_cases e : j = i - 1
    · subst e; exact hv
    · exact a5 j (by omega) b2
theorem shI.done {vol f g : Int → Int} {k i : Int} (h : shI vol f k i g) (he : i ≤ 0 ∨ vol k ≤ vol (f (i - 1))) : isIns vol f k (fset g i k) := by
  obtain ⟨a1, a2, a4, a5⟩ := h
  exact ⟨i, a1, fun j b1 b2 => by rw [fset_n _ _ (by omega)]; exact a2 j b1 b2, fset_e _ _ _, fun j b1 b2 => by rw [fset_n _ _ (by omega)]; exact a4 j b1 b2, a5, by omega⟩
/-- sums with one box more, turn by turn -/
def weI (sid tb : Int → Int) (x o a t g : Int) : Prop := 0 ≤ g ∧ ∀ p, 0 ≤ p → (zbit g p ↔ zbit x p ∨ anyB (fun u => phas tb o u ∧ pext sid o u a ≤ p ∧ zbit x (p - pext sid o u a)) t)
theorem weI.on {sid tb : Int → Int} {x o a t g : Int} (h : weI sid tb x o a t g) (hx : 0 ≤ x) (ht : 0 ≤ t) (he : 0 ≤ pext sid o t a) (hp : phas tb o t) : weI sid tb x o a (t + 1) (zor g (x * 2 ^ (pext sid o t a).toNat)) := by
  refine ⟨zor_nn _ _, fun p hp0 => ?_⟩
  rw [zbit_or h.1 (mulp_nn hx _), h.2 p hp0, zbit_shl hx he hp0, anyB_s ht]
  constructor
  · rintro ((q | q) | q)
    · exact Or.inl q
    · exact Or.inr (Or.inl q)
    · exact Or.inr (Or.inr ⟨hp, q⟩)
  · rintro (q | q | q)
    · exact Or.inl (Or.inl q)
    · exact Or.inl (Or.inr q)
    · exact Or.inr q.2
theorem weI.off {sid tb : Int → Int} {x o a t g : Int} (h : weI sid tb x o a t g) (ht : 0 ≤ t) (hp : ¬ phas tb o t) : weI sid tb x o a (t + 1) g := by
  refine ⟨h.1, fun p hp0 => ?_⟩
  rw [h.2 p hp0, anyB_s ht]
  constructor
  · rintro (q | q)
    · exact Or.inl q
    · exact Or.inr (Or.inl q)
  · rintro (q | q | q)
    · exact Or.inl q
    · exact Or.inr q
    · exact absurd q.1 hp
/-- sums of boxes below k, up to a length -/
def soI (len sid tb : Int → Int) (b a k x : Int) : Prop := (0 ≤ x ∧ x < 2 ^ 21) ∧ ∀ p, 0 ≤ p → (zbit x p ↔ p ≤ len a ∧ reach sid tb b a k.toNat p)
theorem mask_bit {L p : Int} (hL : 0 ≤ L) (hp : 0 ≤ p) : zbit (2 * 2 ^ L.toNat - 1) p ↔ p ≤ L := by
  rw [two_pow L hL, zbit_below (by omega) hp]; omega
theorem mask_in {L : Int} (h0 : 0 ≤ L) (h1 : L ≤ 20) : (0 : Int) ≤ 2 * 2 ^ L.toNat - 1 ∧ (2 * 2 ^ L.toNat - 1 : Int) < 2097152 := by
  have := rng_in (e := 0) (g := L + 1) (by omega) (by omega) (by omega)
  rw [two_pow L h0]
  rw [show (2 : Int) ^ 21 = 2097152 from rfl] at this
  have e : (1 * 2 ^ (0 : Int).toNat : Int) = 1 := rfl
  rw [e] at this
  omega
theorem soI.step {n : Int} {len sid tb wt : Int → Int} (hk : sOK n len sid tb wt) {b a k x g : Int} (h : soI len sid tb b a k x) (hk0 : 0 ≤ k ∧ k < 8) (ha : 0 ≤ a ∧ a < 3) (hne : k ≠ b) (hg : weI sid tb x k a 6 g) : soI len sid tb b a (k + 1) (zand g (2 * 2 ^ (len a).toNat - 1)) := by
  have hL := hk.2.1 a ha.1 ha.2
  have hm := mask_in (L := len a) (by omega) (by omega)
  refine ⟨⟨zand_nn _ _, ?_⟩, fun p hp => ?_⟩
  · have : zand g (2 * 2 ^ (len a).toNat - 1) ≤ 2 * 2 ^ (len a).toNat - 1 := by
      unfold zand
      have : g.toNat &&& (2 * 2 ^ (len a).toNat - 1 : Int).toNat ≤ (2 * 2 ^ (len a).toNat - 1 : Int).toNat := Nat.and_le_right
      omega
    show _ < (2097152 : Int)
    omega
  · rw [zbit_and hg.1 hm.1, mask_bit (by omega) hp, hg.2 p hp, h.2 p hp, show (k + 1).toNat = k.toNat + 1 by omega, reach_s hk0.1 hne]
    constructor
    · rintro ⟨q1 | q1, q2⟩
      · exact ⟨q2, Or.inl q1.2⟩
      · obtain ⟨t, t1, t2, t3, t4⟩ := q1
        have := (h.2 _ (by omega)).mp t4
        exact ⟨q2, Or.inr ⟨t, t1, t2, this.2⟩⟩
    · rintro ⟨q2, q1 | q1⟩
      · exact ⟨Or.inl ⟨q2, q1⟩, q2⟩
      · obtain ⟨t, t1, t2, t3⟩ := q1
        have he := pext_in hk (b := k) (t := t) (a := a) hk0.1 hk0.2
        have hnn : 0 ≤ p - pext sid k t a := by
          rcases Int.lt_or_le (p - pext sid k t a) 0 with c | c
          · exact absurd t3 (reach_neg hk k.toNat _ (by omega) c)
          · exact c
        exact ⟨Or.inr ⟨t, t1, t2, by omega, (h.2 _ hnn).mpr ⟨by omega, t3⟩⟩, q2⟩
theorem soI.skip {len sid tb : Int → Int} {b a x : Int} (hb : 0 ≤ b) (h : soI len sid tb b a b x) : soI len sid tb b a (b + 1) x := by
  refine ⟨h.1, fun p hp => (h.2 p hp).trans ?_⟩
  rw [show (b + 1).toNat = b.toNat + 1 by omega]
  refine ⟨fun q => ⟨q.1, Or.inl q.2⟩, fun q => ⟨q.1, q.2.elim id (fun w => absurd (Int.toNat_of_nonneg hb) w.1)⟩⟩
/-- a set of coordinates of a box on an axis -/
def coA (n : Int) (len sid tb : Int → Int) (b a v : Int) : Prop := (0 ≤ v ∧ v < 2 ^ 21) ∧ ∀ p, 0 ≤ p → (zbit v p ↔ p ≤ len a ∧ pC n sid tb b a p)
/-- the class's tables stand -/
def cS (S : jMem) : Prop := isOrd (pvol (S 3)) (S 1 4).toNat (S 7) ∧ ∀ b a, 0 ≤ b → b < S 1 4 → 0 ≤ a → a < 3 → coA (S 1 4) (S 2) (S 3) (S 4) b a (S 8 (b * 3 + a))
/-- those of a turn that fits -/
def wcA (n : Int) (len sid tb : Int → Int) (b t a v : Int) : Prop := (0 ≤ v ∧ v < 2 ^ 21) ∧ ∀ p, 0 ≤ p → (zbit v p ↔ p ≤ len a - pext sid b t a ∧ pC n sid tb b a p)
theorem cnt_upto {P : Int → Prop} {v L : Int} (hv : 0 ≤ v ∧ v < 2 ^ 21) (hL : -1 ≤ L ∧ L ≤ 20) (h : ∀ p, 0 ≤ p → (zbit v p ↔ p ≤ L ∧ P p)) : zcnt v = pcnt P (L + 1) := by
  obtain ⟨n, hn⟩ := Int.eq_ofNat_of_zero_le (show 0 ≤ L + 1 by omega)
  unfold zcnt
  have e := pcnt_split (zbit v) (a := L + 1) (by omega) (24 - n)
  have e2 := pcnt_none (P := fun j => zbit v (L + 1 + j)) (v := ((24 - n : Nat) : Int)) (fun j j1 j2 q => by have := (h _ (by omega)).mp q; omega)
  rw [e2, Int.add_zero, show L + 1 + ((24 - n : Nat) : Int) = 24 by omega] at e
  rw [e]
  exact pcnt_congr (fun u u1 u2 => (h u u1).trans ⟨fun q => q.2, fun q => ⟨by omega, q⟩⟩)
theorem wcA.cnt {n : Int} {len sid tb wt : Int → Int} (hk : sOK n len sid tb wt) {b t a v : Int} (h : wcA n len sid tb b t a v) (hb : 0 ≤ b ∧ b < 8) (ha : 0 ≤ a ∧ a < 3) (hs : pext sid b t a ≤ len a) : zcnt v = pmany n len sid tb b t a := by
  have hL := hk.2.1 a ha.1 ha.2
  have he := pext_in hk (b := b) (t := t) (a := a) hb.1 hb.2
  rw [pmany_cnt]
  exact cnt_upto h.1 (by omega) h.2
theorem coA.cnt {n : Int} {len sid tb wt : Int → Int} (hk : sOK n len sid tb wt) {b a v : Int} (h : coA n len sid tb b a v) (ha : 0 ≤ a ∧ a < 3) : zcnt v = pcnt (pC n sid tb b a) (len a + 1) := by
  have hL := hk.2.1 a ha.1 ha.2
  exact cnt_upto h.1 (by omega) h.2
theorem coA.way {n : Int} {len sid tb wt : Int → Int} (hk : sOK n len sid tb wt) {b t a v : Int} (h : coA n len sid tb b a v) (hb : 0 ≤ b ∧ b < 8) (ha : 0 ≤ a ∧ a < 3) (hs : pext sid b t a ≤ len a) : wcA n len sid tb b t a (zand v (2 * 2 ^ (len a - pext sid b t a).toNat - 1)) := by
  have hL := hk.2.1 a ha.1 ha.2
  have he := pext_in hk (b := b) (t := t) (a := a) hb.1 hb.2
  have hm := mask_in (L := len a - pext sid b t a) (by omega) (by omega)
  refine ⟨⟨zand_nn _ _, ?_⟩, fun p hp => ?_⟩
  · have := zand_le (a := v) (b := 2 * 2 ^ (len a - pext sid b t a).toNat - 1) h.1.1
    have := h.1.2
    omega
  · rw [zbit_and h.1.1 hm.1, mask_bit (by omega) hp, h.2 p hp]
    exact ⟨fun q => ⟨q.2, q.1.2⟩, fun q => ⟨⟨by omega, q.2⟩, q.1⟩⟩
theorem pways_c {n : Int} {len sid tb wt : Int → Int} (hk : sOK n len sid tb wt) {b t : Int} (hb : 0 ≤ b ∧ b < 8) : (pcounts len sid tb b t → pways n len sid tb b t = pmany n len sid tb b t 0 * pmany n len sid tb b t 1 * pmany n len sid tb b t 2) ∧ (¬ pcounts len sid tb b t → pways n len sid tb b t = 0) := by
  constructor
  · intro h
    unfold pways
    rw [bb_mul_t (pcounts_iff.mp h).1]
  · intro h
    unfold pways
    by_cases hf : pfirst sid tb b t
    · rw [bb_mul_t hf]
      have hs : ¬ pshort len sid b t := fun q => h (pcounts_iff.mpr ⟨hf, q⟩)
      have z : ∀ a, len a < pext sid b t a → pmany n len sid tb b t a = 0 := fun a q => by rw [pmany_cnt]; exact pcnt_0 _ (by omega)
      rcases Int.lt_or_le (len 0) (pext sid b t 0) with c0 | c0
      · rw [z 0 c0, Int.zero_mul, Int.zero_mul]
      · rcases Int.lt_or_le (len 1) (pext sid b t 1) with c1 | c1
        · rw [z 1 c1, Int.mul_zero, Int.zero_mul]
        · rcases Int.lt_or_le (len 2) (pext sid b t 2) with c2 | c2
          · rw [z 2 c2, Int.mul_zero]
          · exact absurd ⟨c0, c1, c2⟩ hs
    · rw [bb_mul_f hf]
/-- what restarting makes of a memory -/
def cRe (S0 S : jMem) : Prop := keeps [6, 7, 8, 9, 14, 15, 16, 17] S0 S ∧ cS S ∧ (S 6 12 = 0 ∧ S 6 14 = 0 ∧ S 6 15 = bb (S0 1 4 = 0)) ∧ (S 9 0 = -1 ∧ S 14 0 = 0 ∧ S 15 0 = 0 ∧ S 16 0 = 0 ∧ S 17 0 = 0)
def reI (S0 : jMem) (b a : Int) (S : jMem) : Prop := keeps [8] S0 S ∧ ∀ c x, 0 ≤ c → 0 ≤ x → x < 3 → 3 * c + x < 3 * b + a → coA (S0 1 4) (S0 2) (S0 3) (S0 4) c x (S 8 (c * 3 + x))
theorem reI.put {S0 S : jMem} {b a v : Int} (h : reI S0 b a S) (hb : 0 ≤ b) (ha : 0 ≤ a ∧ a < 3) (hv : coA (S0 1 4) (S0 2) (S0 3) (S0 4) b a v) : reI S0 b (a + 1) (up2 S 8 (b * 3 + a) v) := by
  refine ⟨h.1.up (by decide) _ _, fun c x c1 x1 x2 hc => ?_⟩
  by_cases e : c = b ∧ x = a
  · obtain ⟨rfl, rfl⟩ := e
    rw [up2_eq]; exact hv
  · rw [up2_a _ _ _ (by omega)]
    exact h.2 c x c1 x1 x2 (by omega)
def enM (S : jMem) (d : Int) : jMem := up2 (up2 (up2 (up2 (up2 (up2 S 6 12 d) 9 d (-1)) 14 d 0) 15 d 0) 16 d 0) 17 d 0
