theorem mul_in {x y A B : Int} (hx : 0 ≤ x ∧ x ≤ A) (hy : 0 ≤ y ∧ y ≤ B) : 0 ≤ x * y ∧ x * y ≤ A * B := ⟨Int.mul_nonneg hx.1 hy.1, Int.mul_le_mul hx.2 hy.2 hy.1 (Int.le_trans hx.1 hx.2)⟩
/-- of three dual functions: what a box needs in a turn, what the bin has -/
def pprod (len sid : Int → Int) (n0 n1 n2 b t : Int) : Int := pworth (len 0) n0 (pext sid b t 0) * pworth (len 1) n1 (pext sid b t 1) * pworth (len 2) n2 (pext sid b t 2)
def phas3 (len : Int → Int) (n0 n1 n2 : Int) : Int := pworth (len 0) n0 (len 0) * pworth (len 1) n1 (len 1) * pworth (len 2) n2 (len 2)
abbrev pturn (len sid tb : Int → Int) (b t : Int) : Prop := (0 ≤ t ∧ t < 6) ∧ phas tb b t ∧ pshort len sid b t
def isLeast (len sid tb : Int → Int) (n0 n1 n2 b m : Int) : Prop := m ≤ phas3 len n0 n1 n2 + 1 ∧ (∀ t, pturn len sid tb b t → m ≤ pprod len sid n0 n1 n2 b t) ∧ (m = phas3 len n0 n1 n2 + 1 ∨ ∃ t, pturn len sid tb b t ∧ m = pprod len sid n0 n1 n2 b t)
theorem isLeast.uniq {len sid tb : Int → Int} {n0 n1 n2 b m m' : Int} (h : isLeast len sid tb n0 n1 n2 b m) (h' : isLeast len sid tb n0 n1 n2 b m') : m = m' := by
  obtain ⟨a1, a2, a3⟩ := h
  obtain ⟨b1, b2, b3⟩ := h'
  have h1 : m ≤ m' := by
    rcases b3 with e | ⟨t, ht, e⟩
    · omega
    · rw [e]; exact a2 t ht
  have h2 : m' ≤ m := by
    rcases a3 with e | ⟨t, ht, e⟩
    · omega
    · rw [e]; exact b2 t ht
  omega
noncomputable def pleast (len sid tb : Int → Int) (n0 n1 n2 b : Int) : Int := @dite Int (∃ m, isLeast len sid tb n0 n1 n2 b m) (Classical.propDecidable _) (fun h => Classical.choose h) (fun _ => 0)
theorem pleast_eq {len sid tb : Int → Int} {n0 n1 n2 b m : Int} (h : isLeast len sid tb n0 n1 n2 b m) : pleast len sid tb n0 n1 n2 b = m := by
  have hx : ∃ m, isLeast len sid tb n0 n1 n2 b m := ⟨m, h⟩
  unfold pleast
  rw [dif_pos hx]
  exact (Classical.choose_spec hx).uniq h
noncomputable def pneed (n : Int) (len sid tb : Int → Int) (n0 n1 n2 m : Int) : Int := isum (fun b => bb (zbit m b) * pleast len sid tb n0 n1 n2 b) 0 (n - 0).toNat
/-- a turn that a box has and that fits: one that counts has the same extents -/
theorem pcounts_of {len sid tb : Int → Int} {b : Int} : ∀ (k : Nat) (t : Int), t.toNat = k → pturn len sid tb b t → ∃ u, (0 ≤ u ∧ u ≤ t) ∧ pcounts len sid tb b u ∧ psame sid b u t := by
  intro k
  induction k using Nat.strongRecOn with | ind k ih => ?_
  intro t hk ht
  by_cases h : ∃ u, 0 ≤ u ∧ u < t ∧ phas tb b u ∧ psame sid b u t
  · obtain ⟨u, u1, u2, u3, u4⟩ := h
    obtain ⟨w, w1, w2, w3⟩ := ih u.toNat (by omega) u rfl ⟨by omega, u3, by have := ht.2.2; omega⟩
    exact ⟨w, by omega, w2, by omega⟩
  · exact ⟨t, by omega, ⟨ht.2.1, ht.2.2, fun u u1 u2 hq => h ⟨u, u1, u2, hq.1, hq.2⟩⟩, rfl, rfl, rfl⟩
/-- each row of the cache is of a box and a turn that counts -/
theorem rows_in {S : jMem} (h : dOK S) : ∀ (k : Nat) (n : Int), n.toNat = k → 0 ≤ n → n ≤ S 1 4 → ∀ i, 0 ≤ i → i < S 29 n → ∃ b t, (0 ≤ b ∧ b < n) ∧ (0 ≤ t ∧ t < 6) ∧ pcounts (S 2) (S 3) (S 4) b t ∧ rowIs (S 28) (S 3) i b t
  | 0, n, hk, h0, h1, i, i0, i1 => by
    have := (h.2.1 n h0 h1).2
    omega
  | k + 1, n, hk, h0, h1, i, i0, i1 => by
    by_cases c : i < S 29 (n - 1)
    · obtain ⟨b, t, a1, a2⟩ := rows_in h k (n - 1) (by omega) (by omega) (by omega) i i0 c
      exact ⟨b, t, by omega, a2⟩
    · have q := h.2.2 (n - 1) (by omega) (by omega)
      rw [show n - 1 + 1 = n by omega] at q
      obtain ⟨t, a1, a2, a3⟩ := q.2.1 i (by omega) i1
      exact ⟨n - 1, t, by omega, a1, a2, a3⟩
theorem row_len {S : jMem} (hk : cOK S) (h : dOK S) {i : Int} (h0 : 0 ≤ i) (h1 : i < S 29 (S 1 4)) : (0 ≤ S 28 (i * 3 + 0) ∧ S 28 (i * 3 + 0) ≤ S 2 0) ∧ (0 ≤ S 28 (i * 3 + 1) ∧ S 28 (i * 3 + 1) ≤ S 2 1) ∧ (0 ≤ S 28 (i * 3 + 2) ∧ S 28 (i * 3 + 2) ≤ S 2 2) := by
  obtain ⟨b, t, b1, t1, hc, r0, r1, r2⟩ := rows_in h _ (S 1 4) rfl hk.1.1 (Int.le_refl _) i h0 h1
  have hn := hk.1
  have e0 := pext_in hk (b := b) (t := t) (a := 0) (by omega) (by omega)
  have e1 := pext_in hk (b := b) (t := t) (a := 1) (by omega) (by omega)
  have e2 := pext_in hk (b := b) (t := t) (a := 2) (by omega) (by omega)
  have hs := hc.2.1
  rw [r0, r1, r2]
  omega
theorem first_in {S : jMem} (hk : cOK S) (h : dOK S) {b : Int} (h0 : 0 ≤ b) (h1 : b ≤ S 1 4) : 0 ≤ S 29 b ∧ S 29 b ≤ 48 := by
  have := h.2.1 b h0 h1
  have := hk.1
  omega
theorem first_le {S : jMem} (h : dOK S) : ∀ (k : Nat) (b c : Int), (c - b).toNat = k → 0 ≤ b → b ≤ c → c ≤ S 1 4 → S 29 b ≤ S 29 c
  | 0, b, c, hk, h0, h1, h2 => by rw [show b = c by omega]; exact Int.le_refl _
  | k + 1, b, c, hk, h0, h1, h2 => by
    have q := first_le h k (b + 1) c (by omega) (by omega) (by omega) h2
    have := (h.2.2 b h0 (by omega)).1
    omega
theorem v0 {S : jMem} (h : vOK S 0) {n x : Int} (h1 : 0 ≤ n ∧ n ≤ S 2 0 / 2 * 2) (h2 : 0 ≤ x ∧ x ≤ S 2 0) : S 27 (n * 21 + x) = pworth (S 2 0) n x := by
  have := h n x h1.1 h1.2 h2.1 h2.2
  rwa [show ((0 : Int) * 21 + n) * 21 + x = n * 21 + x by omega] at this
theorem v1 {S : jMem} (h : vOK S 1) {n x : Int} (h1 : 0 ≤ n ∧ n ≤ S 2 1 / 2 * 2) (h2 : 0 ≤ x ∧ x ≤ S 2 1) : S 27 ((21 + n) * 21 + x) = pworth (S 2 1) n x := by
  have := h n x h1.1 h1.2 h2.1 h2.2
  rwa [show ((1 : Int) * 21 + n) * 21 + x = (21 + n) * 21 + x by omega] at this
theorem v2 {S : jMem} (h : vOK S 2) {n x : Int} (h1 : 0 ≤ n ∧ n ≤ S 2 2 / 2 * 2) (h2 : 0 ≤ x ∧ x ≤ S 2 2) : S 27 ((42 + n) * 21 + x) = pworth (S 2 2) n x := by
  have := h n x h1.1 h1.2 h2.1 h2.2
  rwa [show ((2 : Int) * 21 + n) * 21 + x = (42 + n) * 21 + x by omega] at this
/-- the products on axes 0 and 1 are told -/
def aOK (S : jMem) (n0 n1 : Int) : Prop := S 25 6 = pworth (S 2 0) n0 (S 2 0) * pworth (S 2 1) n1 (S 2 1) ∧ ∀ i, 0 ≤ i → i < S 29 (S 1 4) → S 30 i = pworth (S 2 0) n0 (S 28 (i * 3 + 0)) * pworth (S 2 1) n1 (S 28 (i * 3 + 1))
/-- a component's caches don't look at these cells -/
theorem dOK.keeps {ks : List Nat} {S0 S : jMem} (h : dOK S0) (hk : keeps ks S0 S) (hq : 1 ∉ ks ∧ 2 ∉ ks ∧ 3 ∉ ks ∧ 4 ∉ ks ∧ 27 ∉ ks ∧ 28 ∉ ks ∧ 29 ∉ ks) : dOK S := by
  obtain ⟨q1, q2, q3, q4, q5, q6, q7⟩ := hq
  unfold dOK vOK at h ⊢
  rw [hk 1 q1, hk 2 q2, hk 3 q3, hk 4 q4, hk 27 q5, hk 28 q6, hk 29 q7]
  exact h
abbrev isFn (S : jMem) (a n : Int) : Prop := 0 ≤ n ∧ n ≤ S 2 a / 2 * 2
theorem has_in {len : Int → Int} {n0 n1 n2 : Int} (hl : ∀ a, 0 ≤ a → a < 3 → 1 ≤ len a ∧ len a ≤ 20) (h0 : 0 ≤ n0 ∧ n0 ≤ len 0 / 2 * 2) (h1 : 0 ≤ n1 ∧ n1 ≤ len 1 / 2 * 2) (h2 : 0 ≤ n2 ∧ n2 ≤ len 2 / 2 * 2) : 0 ≤ phas3 len n0 n1 n2 ∧ phas3 len n0 n1 n2 ≤ 64000 := by
  have a0 := hl 0 (by omega) (by omega)
  have a1 := hl 1 (by omega) (by omega)
  have a2 := hl 2 (by omega) (by omega)
  have w0 := pworth_in a0 h0 (x := len 0) (by omega)
  have w1 := pworth_in a1 h1 (x := len 1) (by omega)
  have w2 := pworth_in a2 h2 (x := len 2) (by omega)
  have := mul_in (mul_in ⟨w0.1, w0.2.2.2⟩ ⟨w1.1, w1.2.2.2⟩) ⟨w2.1, w2.2.2.2⟩
  exact this
theorem prod_in {n : Int} {len sid tb wt : Int → Int} (hk : sOK n len sid tb wt) {n0 n1 n2 b t : Int} (hb : 0 ≤ b ∧ b < 8) (ht : pshort len sid b t) (h0 : 0 ≤ n0 ∧ n0 ≤ len 0 / 2 * 2) (h1 : 0 ≤ n1 ∧ n1 ≤ len 1 / 2 * 2) (h2 : 0 ≤ n2 ∧ n2 ≤ len 2 / 2 * 2) : 0 ≤ pprod len sid n0 n1 n2 b t ∧ pprod len sid n0 n1 n2 b t ≤ phas3 len n0 n1 n2 := by
  have a0 := hk.2.1 0 (by omega) (by omega)
  have a1 := hk.2.1 1 (by omega) (by omega)
  have a2 := hk.2.1 2 (by omega) (by omega)
  have e0 := pext_in hk (b := b) (t := t) (a := 0) (by omega) (by omega)
  have e1 := pext_in hk (b := b) (t := t) (a := 1) (by omega) (by omega)
  have e2 := pext_in hk (b := b) (t := t) (a := 2) (by omega) (by omega)
  have w0 := pworth_in a0 h0 (x := pext sid b t 0) (by omega)
  have w1 := pworth_in a1 h1 (x := pext sid b t 1) (by omega)
  have w2 := pworth_in a2 h2 (x := pext sid b t 2) (by omega)
  exact mul_in (mul_in ⟨w0.1, w0.2.1⟩ ⟨w1.1, w1.2.1⟩) ⟨w2.1, w2.2.1⟩
def chI (S0 : jMem) (n0 n1 i : Int) (S : jMem) : Prop := keeps [25, 30] S0 S ∧ (∀ j, S 25 j = if j = 6 then pworth (S0 2 0) n0 (S0 2 0) * pworth (S0 2 1) n1 (S0 2 1) else S0 25 j) ∧ ∀ j, 0 ≤ j → j < i → S 30 j = pworth (S0 2 0) n0 (S0 28 (j * 3 + 0)) * pworth (S0 2 1) n1 (S0 28 (j * 3 + 1))
theorem chI.step {S0 S : jMem} {n0 n1 i v : Int} (h : chI S0 n0 n1 i S) (hv : v = pworth (S0 2 0) n0 (S0 28 (i * 3 + 0)) * pworth (S0 2 1) n1 (S0 28 (i * 3 + 1))) : chI S0 n0 n1 (i + 1) (up2 S 30 i v) := by
  refine ⟨h.1.up (by decide) _ _, fun j => by rw [up2_k _ _ _ (by decide)]; exact h.2.1 j, fun j h1 h2 => ?_⟩
  by_cases hj : j = i
  · subst hj; rw [up2_eq]; exact hv
  · rw [up2_a _ _ _ hj]; exact h.2.2 j h1 (by omega)
theorem chI.done {S0 S : jMem} {n0 n1 : Int} (h : chI S0 n0 n1 (S0 29 (S0 1 4)) S) : aOK S n0 n1 := by
  unfold aOK
  rw [h.1 2 (by decide), h.1 29 (by decide), h.1 1 (by decide), h.1 28 (by decide)]
  exact ⟨by rw [h.2.1 6, if_pos rfl], h.2.2⟩
/-- the least so far: rows lo .. i - 1 of a box -/
def lsI (has : Int) (v : Int → Int) (lo i m : Int) : Prop := m ≤ has + 1 ∧ (∀ j, lo ≤ j → j < i → m ≤ v j) ∧ (m = has + 1 ∨ ∃ j, (lo ≤ j ∧ j < i) ∧ m = v j)
theorem lsI.step {has lo i m : Int} {v : Int → Int} (h : lsI has v lo i m) (hl : lo ≤ i) : lsI has v lo (i + 1) (min m (v i)) := by
  obtain ⟨h1, h2, h3⟩ := h
  refine ⟨by omega, fun j a b => ?_, ?_⟩
  · by_cases e : j = i
    · subst e; omega
    · have := h2 j a (by omega); omega
  · by_cases c : m ≤ v i
    · rw [show min m (v i) = m by omega]
      rcases h3 with e | ⟨j, a, b⟩
      · exact Or.inl e
      · exact Or.inr ⟨j, by omega, b⟩
    · exact Or.inr ⟨i, by omega, by omega⟩
theorem lsI.done {S : jMem} (hk : cOK S) (hd : dOK S) {n0 n1 n2 b m : Int} (ha : aOK S n0 n1) (hb : 0 ≤ b ∧ b < S 1 4) (h2 : isFn S 2 n2) (h : lsI (phas3 (S 2) n0 n1 n2) (fun i => S 30 i * S 27 ((42 + n2) * 21 + S 28 (i * 3 + 2))) (S 29 b) (S 29 (b + 1)) m) : isLeast (S 2) (S 3) (S 4) n0 n1 n2 b m := by
  obtain ⟨h1, h3, h4⟩ := h
  have hn := hk.1
  have hf := hd.2.2 b hb.1 hb.2
  have f0 := hd.2.1 b hb.1 (by omega)
  have fl := first_le hd _ (b + 1) (S 1 4) rfl (by omega) (by omega) (Int.le_refl _)
  have val : ∀ i t, S 29 b ≤ i → i < S 29 (b + 1) → rowIs (S 28) (S 3) i b t → pshort (S 2) (S 3) b t → S 30 i * S 27 ((42 + n2) * 21 + S 28 (i * 3 + 2)) = pprod (S 2) (S 3) n0 n1 n2 b t := by
    intro i t i1 i2 hr hs
    have e2 := pext_in hk (b := b) (t := t) (a := 2) (by omega) (by omega)
    rw [ha.2 i (by omega) (by omega), hr.1, hr.2.1, hr.2.2, v2 hd.1.2.2 h2 (by omega)]
    rfl
  refine ⟨h1, fun t ht => ?_, ?_⟩
  · obtain ⟨u, u1, u2, u3⟩ := pcounts_of _ t rfl ht
    obtain ⟨i, i1, i2⟩ := hf.2.2 u (by omega) (by omega) u2
    have := h3 i i1.1 i1.2
    dsimp only at this
    rw [val i u i1.1 i1.2 i2 u2.2.1] at this
    unfold pprod at this ⊢
    rw [← u3.1, ← u3.2.1, ← u3.2.2]
    exact this
  · rcases h4 with e | ⟨i, i1, e⟩
    · exact Or.inl e
    · obtain ⟨t, t1, t2, t3⟩ := hf.2.1 i i1.1 i1.2
      refine Or.inr ⟨t, ⟨t1, t2.1, t2.2.1⟩, ?_⟩
      rw [e]
      exact val i t i1.1 i1.2 t3 t2.2.1
