/-! the class's progress through the ways of a box -/
def sx (c t l : Int) : Prop := 0 ≤ l ∧ ∀ p, 0 ≤ p → (zbit l p ↔ zbit c p ∧ t < p)
theorem sx.lt {c t l : Int} (h : sx c t l) (hc : 0 ≤ c ∧ c < 2 ^ 21) : l < 2 ^ 21 := zlt_of h.1 (fun j hj q => zbit_high (k := 21) hc.1 hc.2 hj ((h.2 j (by omega)).mp q).1)
theorem sx.full {c : Int} (hc : 0 ≤ c) : sx c (-1) c := ⟨hc, fun p hp => ⟨fun q => ⟨q, by omega⟩, fun q => q.1⟩⟩
theorem sx.zero {c : Int} (hc : 0 ≤ c ∧ c < 2 ^ 21) : sx c 30 0 := ⟨by omega, fun p hp => ⟨fun q => absurd q (zbit_0 p), fun q => absurd q.1 (zbit_high (k := 21) hc.1 hc.2 (by omega))⟩⟩
/-- without the lowest -/
theorem sx.off {c t l x : Int} (h : sx c t l) (hl : 0 < l) (hx : isLow l x) : sx c x (zand l (l - 1)) ∧ zbit c x ∧ t < x := by
  have h1 := (h.2 x hx.1).mp hx.2.1
  refine ⟨⟨zand_nn _ _, fun p hp => ?_⟩, h1⟩
  rw [low_off hl hx hp]
  constructor
  · rintro ⟨q1, q2⟩
    refine ⟨((h.2 p hp).mp q1).1, ?_⟩
    rcases Int.lt_or_le x p with c1 | c1
    · exact c1
    · exact absurd q1 (hx.2.2 p hp (by omega))
  · rintro ⟨q1, q2⟩
    exact ⟨(h.2 p hp).mpr ⟨q1, by omega⟩, by omega⟩
theorem zcnt_off {l x : Int} (hl : 0 < l ∧ l < 2 ^ 21) (hx : isLow l x) : zcnt l = zcnt (zand l (l - 1)) + 1 := by
  have h24 := hx.lt (k := 21) (by omega) hl.2
  have hp : (0 : Int) ≤ 1 * 2 ^ x.toNat := by have := pow_nn x.toNat; omega
  have e := zcnt_part (s := l) (b := 1 * 2 ^ x.toNat) (by omega) hp (fun j hj q => by rw [(zbit_pow hx.1 hj).mp q]; exact hx.2.1)
  rw [zcnt_pow (by have := hx.1; omega)] at e
  have : zandn l (1 * 2 ^ x.toNat) = zand l (l - 1) := zbit_ext (zandn_nn _ _) (zand_nn _ _) (fun j hj => by rw [zbit_zandn (by omega) hx.1 hj, low_off hl.1 hx hj])
  rw [this] at e; omega
/-- what is not above the threshold, and what is above -/
theorem sx.cnt {P : Int → Prop} {c t l L : Int} (h : sx c t l) (hc : 0 ≤ c ∧ c < 2 ^ 21) (ht : -1 ≤ t) : zcnt c = pcnt (zbit c) (t + 1) + zcnt l := by
  rcases Int.lt_or_le 23 t with c1 | c1
  · have e0 : zcnt l = 0 := by
      unfold zcnt
      exact pcnt_none (fun j j1 j2 q => by have := ((h.2 j j1).mp q).2; omega)
    have e1 := zcnt_lt (k := 21) hc.1 hc.2 (by decide)
    obtain ⟨m, hm⟩ := Int.eq_ofNat_of_zero_le (show 0 ≤ t + 1 - 21 by omega)
    have e2 := pcnt_split (zbit c) (a := 21) (by omega) m
    have e3 := pcnt_none (P := fun j => zbit c (21 + j)) (v := m) (fun j j1 j2 => zbit_high (k := 21) hc.1 hc.2 (by omega))
    rw [e3, show (21 : Int) + m = t + 1 by omega] at e2
    rw [e0, e1, e2]
    show pcnt (zbit c) 21 = _
    omega
  · obtain ⟨m, hm⟩ := Int.eq_ofNat_of_zero_le (show 0 ≤ 23 - t by omega)
    have e1 := pcnt_split (zbit c) (a := t + 1) (by omega) m
    have e2 := pcnt_split (zbit l) (a := t + 1) (by omega) m
    have e3 := pcnt_none (P := zbit l) (v := t + 1) (fun j j1 j2 q => by have := ((h.2 j j1).mp q).2; omega)
    have e4 : pcnt (fun j => zbit l (t + 1 + j)) m = pcnt (fun j => zbit c (t + 1 + j)) m := pcnt_congr (fun u u1 u2 => (h.2 _ (by omega)).trans ⟨fun q => q.1, fun q => ⟨q, by omega⟩⟩)
    rw [show t + 1 + (m : Int) = 24 by omega] at e1 e2
    unfold zcnt
    rw [e1, e2, e3, e4]; omega
/-- where an element stands -/
theorem sx.at {c t l p : Int} (h : sx c t l) (hc : 0 ≤ c ∧ c < 2 ^ 21) (ht : -1 ≤ t) (hp : 0 ≤ p) (hz : zbit l p) : pcnt (zbit c) p = zcnt c - zcnt l + pcnt (zbit l) p := by
  have h1 := (h.2 p hp).mp hz
  have e0 := sx.cnt (P := fun _ => True) (L := 0) h hc ht
  obtain ⟨m, hm⟩ := Int.eq_ofNat_of_zero_le (show 0 ≤ p - (t + 1) by omega)
  have e1 := pcnt_split (zbit c) (a := t + 1) (by omega) m
  have e2 := pcnt_split (zbit l) (a := t + 1) (by omega) m
  have e3 := pcnt_none (P := zbit l) (v := t + 1) (fun j j1 j2 q => by have := ((h.2 j j1).mp q).2; omega)
  have e4 : pcnt (fun j => zbit l (t + 1 + j)) m = pcnt (fun j => zbit c (t + 1 + j)) m := pcnt_congr (fun u u1 u2 => (h.2 _ (by omega)).trans ⟨fun q => q.1, fun q => ⟨q, by omega⟩⟩)
  rw [show t + 1 + (m : Int) = p by omega] at e1 e2
  omega
/-- the threshold itself -/
theorem sx.thr {c t l : Int} (h : sx c t l) (hc : 0 ≤ c ∧ c < 2 ^ 21) (ht : 0 ≤ t) (hz : zbit c t) : pcnt (zbit c) t = zcnt c - zcnt l - 1 := by
  have e0 := sx.cnt (P := fun _ => True) (L := 0) h hc (by omega)
  have e1 := pcnt_s (zbit c) ht
  rw [bb_t hz] at e1; omega
theorem digits_of {x y i j k : Int} (hx : 0 < x) (hy : 0 < y) (hi : 0 ≤ i ∧ i < x) (hj : 0 ≤ j ∧ j < y) (hk : 0 ≤ k) : ((k * y + j) * x + i) % x = i ∧ ((k * y + j) * x + i) / x % y = j ∧ ((k * y + j) * x + i) / x / y = k := by
  have e1 : ((k * y + j) * x + i) / x = k * y + j := by
    rw [Int.add_comm, Int.add_mul_ediv_right _ _ (by omega), Int.ediv_eq_zero_of_lt hi.1 hi.2, Int.zero_add]
  have e2 : (k * y + j) / y = k := by
    rw [Int.add_comm, Int.add_mul_ediv_right _ _ (by omega), Int.ediv_eq_zero_of_lt hj.1 hj.2, Int.zero_add]
  refine ⟨?_, ?_, ?_⟩
  · rw [Int.add_comm, Int.add_mul_emod_self_right, Int.emod_eq_of_lt hi.1 hi.2]
  · rw [e1, Int.add_comm, Int.add_mul_emod_self_right, Int.emod_eq_of_lt hj.1 hj.2]
  · rw [e1, e2]
/-- three sets of what is left: layers, rows, ways -/
def prog (n : Int) (len sid tb : Int → Int) (b T c0 c1 c2 zt ly yt rw xt wy w : Int) : Prop := ((0 ≤ T ∧ T < 6) ∧ pcounts len sid tb b T) ∧ (wcA n len sid tb b T 0 c0 ∧ wcA n len sid tb b T 1 c1 ∧ wcA n len sid tb b T 2 c2) ∧ (sx c2 zt ly ∧ sx c1 yt rw ∧ sx c0 xt wy) ∧ (-1 ≤ zt ∧ -1 ≤ yt ∧ -1 ≤ xt) ∧ w + (zcnt ly * pmany n len sid tb b T 1 + zcnt rw) * pmany n len sid tb b T 0 + zcnt wy = wsum n len sid tb b (T + 1)
section Pg
variable {n : Int} {len sid tb wt : Int → Int} {b T c0 c1 c2 zt ly yt rw xt wy w : Int}
theorem prog.m (hk : sOK n len sid tb wt) (hb : 0 ≤ b ∧ b < 8) (h : prog n len sid tb b T c0 c1 c2 zt ly yt rw xt wy w) : zcnt c0 = pmany n len sid tb b T 0 ∧ zcnt c1 = pmany n len sid tb b T 1 ∧ zcnt c2 = pmany n len sid tb b T 2 ∧ wsum n len sid tb b (T + 1) = wsum n len sid tb b T + pmany n len sid tb b T 0 * pmany n len sid tb b T 1 * pmany n len sid tb b T 2 := by
  obtain ⟨⟨t1, t2⟩, ⟨w0, w1, w2⟩, -⟩ := h
  refine ⟨w0.cnt hk hb (by omega) t2.2.1.1, w1.cnt hk hb (by omega) t2.2.1.2.1, w2.cnt hk hb (by omega) t2.2.1.2.2, ?_⟩
  rw [wsum_s _ _ _ _ _ t1.1, (pways_c hk hb).1 t2]
theorem cntC {a v t : Int} (hs : pext sid b T a ≤ len a) (h : wcA n len sid tb b T a v) (ht : t ≤ len a - pext sid b T a + 1) : pcnt (zbit v) t = pcnt (pC n sid tb b a) t := pcnt_congr (fun u u1 u2 => (h.2 u u1).trans ⟨fun q => q.2, fun q => ⟨by omega, q⟩⟩)
/-- the ways that are left of a row -/
theorem prog.way (hk : sOK n len sid tb wt) (hb : 0 ≤ b ∧ b < 8) (h : prog n len sid tb b T c0 c1 c2 zt ly yt rw xt wy w) (hz : 0 ≤ zt ∧ zbit c2 zt) (hy : 0 ≤ yt ∧ zbit c1 yt) {p : Int} (hp : 0 ≤ p) (hpw : zbit wy p) : isWay n len sid tb b (w + pcnt (zbit wy) p) T p yt zt ∧ 0 ≤ w := by
  obtain ⟨e0, e1, e2, e3⟩ := prog.m hk hb h
  obtain ⟨⟨t1, t2⟩, ⟨w0, w1, w2⟩, ⟨s2, s1, s0⟩, ⟨g2, g1, g0⟩, he⟩ := h
  have a0 := s0.at w0.1 g0 hp hpw
  have a1 := s1.thr w1.1 hy.1 hy.2
  have a2 := s2.thr w2.1 hz.1 hz.2
  have hpc := ((s0.2 p hp).mp hpw).1
  have p0 := (w0.2 p hp).mp hpc
  have p1 := (w1.2 yt hy.1).mp hy.2
  have p2 := (w2.2 zt hz.1).mp hz.2
  have n0 := pcnt_nn (zbit c0) p
  have n1 := pcnt_nn (zbit c1) yt
  have n2 := pcnt_nn (zbit c2) zt
  have nl := zcnt_nn ly
  have nr := zcnt_nn rw
  have nw := pcnt_nn (zbit wy) p
  have b0 := w0.1
  have hlt : p < 21 := by
    rcases Int.lt_or_le p 21 with c | c
    · exact c
    · exact absurd hpc (zbit_high (k := 21) b0.1 b0.2 c)
  have m0 : pcnt (zbit wy) p + 1 ≤ zcnt wy := by
    have q1 := pcnt_s (zbit wy) hp
    have q2 := pcnt_mono (zbit wy) (show p + 1 ≤ 24 by omega)
    rw [bb_t hpw] at q1
    unfold zcnt; omega
  have hm0 : 0 < pmany n len sid tb b T 0 := by have := zcnt_nn wy; omega
  have hm1 : 0 < pmany n len sid tb b T 1 := by omega
  -- the number within the turn
  have er : w + pcnt (zbit wy) p - wsum n len sid tb b T = (pcnt (zbit c2) zt * pmany n len sid tb b T 1 + pcnt (zbit c1) yt) * pmany n len sid tb b T 0 + pcnt (zbit c0) p := by
    have k2 : pcnt (zbit c2) zt = pmany n len sid tb b T 2 - zcnt ly - 1 := by omega
    have k1 : pcnt (zbit c1) yt = pmany n len sid tb b T 1 - zcnt rw - 1 := by omega
    rw [k2, k1, a0, e0]
    generalize pmany n len sid tb b T 0 = x at *
    generalize pmany n len sid tb b T 1 = y at *
    generalize pmany n len sid tb b T 2 = z at *
    have f1 : (z - zcnt ly - 1) * y = z * y - zcnt ly * y - y := by rw [Int.sub_mul, Int.sub_mul, Int.one_mul]
    have f2 : ((z - zcnt ly - 1) * y + (y - zcnt rw - 1)) * x = x * y * z - (zcnt ly * y + zcnt rw) * x - x := by
      rw [f1]
      have : z * y - zcnt ly * y - y + (y - zcnt rw - 1) = z * y - (zcnt ly * y + zcnt rw) - 1 := by omega
      rw [this, Int.sub_mul, Int.sub_mul, Int.one_mul, show z * y * x = x * y * z by rw [Int.mul_comm (z * y) x, Int.mul_comm z y, Int.mul_assoc]]
    rw [f2]; omega
  have dg := digits_of hm0 hm1 (i := pcnt (zbit c0) p) (j := pcnt (zbit c1) yt) (k := pcnt (zbit c2) zt) (by omega) (by omega) (by omega)
  have hnn : 0 ≤ w + pcnt (zbit wy) p - wsum n len sid tb b T := by
    rw [er]
    have := Int.mul_nonneg (show 0 ≤ pcnt (zbit c2) zt * pmany n len sid tb b T 1 + pcnt (zbit c1) yt by have := Int.mul_nonneg n2.1 (Int.le_of_lt hm1); omega) (Int.le_of_lt hm0)
    omega
  have hub : w + pcnt (zbit wy) p < wsum n len sid tb b (T + 1) := by
    have := Int.mul_nonneg (show 0 ≤ zcnt ly * pmany n len sid tb b T 1 + zcnt rw by have := Int.mul_nonneg nl.1 (Int.le_of_lt hm1); omega) (Int.le_of_lt hm0)
    omega
  refine ⟨⟨t1, ⟨by omega, hub⟩, ?_, ?_, ?_⟩, ?_⟩
  · rw [er, dg.1, cntC t2.2.1.1 w0 (by omega)]; exact ⟨hp, p0.2, rfl⟩
  · rw [er, dg.2.1, cntC t2.2.1.2.1 w1 (by omega)]; exact ⟨hy.1, p1.2, rfl⟩
  · rw [er, dg.2.2, cntC t2.2.1.2.2 w2 (by omega)]; exact ⟨hz.1, p2.2, rfl⟩
  · have h0 := wsum_mono hk hb (t := 0) (u := T) (by omega) t1.1
    rw [wsum_0] at h0
    have h1 := wsum_s n len sid tb b t1.1
    -- w itself
    have hq : pcnt (zbit wy) p ≤ zcnt wy := by omega
    have : w + zcnt wy = wsum n len sid tb b T + ((pcnt (zbit c2) zt * pmany n len sid tb b T 1 + pcnt (zbit c1) yt) * pmany n len sid tb b T 0 + pmany n len sid tb b T 0) := by omega
    have h5 := Int.mul_nonneg (show 0 ≤ pcnt (zbit c2) zt * pmany n len sid tb b T 1 + pcnt (zbit c1) yt by have := Int.mul_nonneg n2.1 (Int.le_of_lt hm1); omega) (Int.le_of_lt hm0)
    have h6 := sx.cnt (P := fun _ => True) (L := 0) s0 w0.1 g0
    have h7 := pcnt_nn (zbit c0) (xt + 1)
    omega
end Pg
theorem reach_0 {sid tb : Int → Int} {b a : Int} : ∀ k : Nat, reach sid tb b a k 0
  | 0 => rfl
  | k + 1 => Or.inl (reach_0 k)
theorem wcA.zero {n : Int} {len sid tb : Int → Int} {b t a v : Int} (h : wcA n len sid tb b t a v) (hs : pext sid b t a ≤ len a) : zbit v 0 ∧ 0 < v := by
  have h1 : zbit v 0 := (h.2 0 (by omega)).mpr ⟨by omega, reach_0 _⟩
  refine ⟨h1, ?_⟩
  rcases Int.lt_or_le 0 v with c | c
  · exact c
  · have : v = 0 := by have := h.1; omega
    rw [this] at h1; exact absurd h1 (zbit_0 0)
/-! many steps at once -/
theorem itr_succ {f : sst → sst} : ∀ (k : Nat) (s : sst), itr f (k + 1) s = f (itr f k s)
  | 0, s => rfl
  | k + 1, s => by show itr f (k + 1) (f s) = _; rw [itr_succ k (f s)]; rfl
theorem fset_fset (f : Int → Int) (i a b : Int) : fset (fset f i a) i b = fset f i b := by
  funext j; unfold fset
  by_cases h : j = i
  · rw [if_pos h, if_pos h]
  · rw [if_neg h, if_neg h, if_neg h]
theorem fset_id (f : Int → Int) (i : Int) : fset f i (f i) = f := by
  funext j; unfold fset
  by_cases h : j = i
  · rw [if_pos h, h]
  · rw [if_neg h]
theorem itr_no {n : Int} {len sid tb ord nx : Int → Int} {d w l : Int} : ∀ k : Nat, (k : Int) ≤ l → (∀ i : Int, 0 ≤ i → i < k → nx d + i ≠ wsum n len sid tb (ord d) 6 ∧ ¬ pgood n len sid tb ord (fset nx d (nx d + i)) d) → itr (sstep n len sid tb ord) k (0, d, w, l, nx) = (0, d, w + k, l - k, fset nx d (nx d + k))
  | 0, _, _ => by
    show ((0, d, w, l, nx) : sst) = (0, d, w + 0, l - 0, fset nx d (nx d + 0))
    rw [Int.add_zero, Int.sub_zero, Int.add_zero, fset_id]
  | k + 1, hl, h => by
    rw [itr_succ, itr_no k (by omega) (fun i i1 i2 => h i i1 (by omega))]
    have hk := h k (by omega) (by omega)
    rw [sstep_no (by rw [fset_e]; exact hk.1) (by omega) hk.2, fset_e, fset_fset]
    have e1 : w + (k : Int) + 1 = w + ((k + 1 : Nat) : Int) := by omega
    have e2 : l - (k : Int) - 1 = l - ((k + 1 : Nat) : Int) := by omega
    have e3 : nx d + (k : Int) + 1 = nx d + ((k + 1 : Nat) : Int) := by omega
    rw [e1, e2, e3]
theorem sEnd.itr {f : sst → sst} {s s' : sst} (k : Nat) (h : sEnd f (itr f k s) s') : sEnd f s s' := by
  obtain ⟨m, a, b⟩ := h
  exact ⟨k + m, by rw [itr_add]; exact a, b⟩
