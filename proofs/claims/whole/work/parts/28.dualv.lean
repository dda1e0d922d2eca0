theorem isum_mul_le {f g : Int → Int} {A B : Int} : ∀ (n : Nat) (i : Int), (∀ j, i ≤ j → j < i + n → B * f j ≤ A * g j) → B * isum f i n ≤ A * isum g i n
  | 0, _, _ => by simp [isum]
  | n + 1, i, h => by
    have h1 := h i (by omega) (by omega)
    have h2 := isum_mul_le n (i + 1) (fun j a b => h j (by omega) (by omega))
    show B * (f i + isum f (i + 1) n) ≤ A * (g i + isum g (i + 1) n)
    rw [Int.mul_add, Int.mul_add]
    omega
theorem isum_ge {f : Int → Int} : ∀ (n : Nat) (i k : Int), (∀ j, i ≤ j → j < i + n → 0 ≤ f j) → i ≤ k → k < i + n → f k ≤ isum f i n
  | 0, _, _, _, h1, h2 => by omega
  | n + 1, i, k, h, h1, h2 => by
    show f k ≤ f i + isum f (i + 1) n
    have h3 := h i (by omega) (by omega)
    by_cases e : k = i
    · subst e
      have := (isum_nn n (k + 1) (fun j a b => h j (by omega) (by omega)))
      omega
    · have := isum_ge n (i + 1) k (fun j a b => h j (by omega) (by omega)) (by omega) (by omega)
      omega
where isum_nn {f : Int → Int} : ∀ (n : Nat) (i : Int), (∀ j, i ≤ j → j < i + n → 0 ≤ f j) → 0 ≤ isum f i n
  | 0, _, _ => by simp [isum]
  | n + 1, i, h => by
    have h1 := h i (by omega) (by omega)
    have h2 := isum_nn n (i + 1) (fun j a b => h j (by omega) (by omega))
    show 0 ≤ f i + isum f (i + 1) n
    omega
theorem least_nn {n : Int} {len sid tb wt : Int → Int} (hk : sOK n len sid tb wt) {n0 n1 n2 b : Int} (hb : 0 ≤ b ∧ b < 8) (h0 : 0 ≤ n0 ∧ n0 ≤ len 0 / 2 * 2) (h1 : 0 ≤ n1 ∧ n1 ≤ len 1 / 2 * 2) (h2 : 0 ≤ n2 ∧ n2 ≤ len 2 / 2 * 2) : 0 ≤ pleast len sid tb n0 n1 n2 b := by
  obtain ⟨r, hr⟩ := isLeast_ex len sid tb n0 n1 n2 b
  rw [pleast_eq hr]
  have hh := has_in hk.2.1 h0 h1 h2
  rcases hr.2.2 with e | ⟨t, ht, e⟩
  · omega
  · rw [e]; exact (prod_in hk hb ht.2.2 h0 h1 h2).1
/-- what proves, with functions that give each turn no more of what they give the bin, proves with the others too -/
theorem prove_of {n : Int} {len sid tb wt : Int → Int} (hk : sOK n len sid tb wt) {n0 n1 n2 p0 p1 p2 A B m : Int} (h0 : 0 ≤ n0 ∧ n0 ≤ len 0 / 2 * 2) (h1 : 0 ≤ n1 ∧ n1 ≤ len 1 / 2 * 2) (h2 : 0 ≤ n2 ∧ n2 ≤ len 2 / 2 * 2) (q0 : 0 ≤ p0 ∧ p0 ≤ len 0 / 2 * 2) (q1 : 0 ≤ p1 ∧ p1 ≤ len 1 / 2 * 2) (q2 : 0 ≤ p2 ∧ p2 ≤ len 2 / 2 * 2)
    (hA : 0 < A) (hB : 0 < B) (hh : A * phas3 len p0 p1 p2 = B * phas3 len n0 n1 n2) (hp : ∀ b t, 0 ≤ b → b < n → pturn len sid tb b t → B * pprod len sid n0 n1 n2 b t ≤ A * pprod len sid p0 p1 p2 b t) (h : pprove n len sid tb n0 n1 n2 m) : pprove n len sid tb p0 p1 p2 m := by
  have hn := hk.1
  have hP := has_in hk.2.1 q0 q1 q2
  by_cases c : ∃ b, (0 ≤ b ∧ b < n) ∧ zbit m b ∧ ¬ ∃ t, pturn len sid tb b t
  · obtain ⟨b, hb, hz, ht⟩ := c
    obtain ⟨r, hr⟩ := isLeast_ex len sid tb p0 p1 p2 b
    have e : r = phas3 len p0 p1 p2 + 1 := by
      rcases hr.2.2 with e | ⟨t, h3, e⟩
      · exact e
      · exact absurd ⟨t, h3⟩ ht
    have := isum_ge (f := fun b => bb (zbit m b) * pleast len sid tb p0 p1 p2 b) (n - 0).toNat 0 b (fun j a1 a2 => Int.mul_nonneg (bb_in _).1 (least_nn hk (by omega) q0 q1 q2)) hb.1 (by omega)
    try dsimp only at this
    rw [bb_mul_t hz, pleast_eq hr, e] at this
    show phas3 len p0 p1 p2 < pneed n len sid tb p0 p1 p2 m
    unfold pneed
    omega
  · have key := isum_mul_le (f := fun b => bb (zbit m b) * pleast len sid tb n0 n1 n2 b) (g := fun b => bb (zbit m b) * pleast len sid tb p0 p1 p2 b) (A := A) (B := B) (n - 0).toNat 0 (fun j a1 a2 => ?_)
    · have h' : phas3 len n0 n1 n2 < pneed n len sid tb n0 n1 n2 m := h
      have k2 : B * pneed n len sid tb n0 n1 n2 m ≤ A * pneed n len sid tb p0 p1 p2 m := key
      have k3 : B * (phas3 len n0 n1 n2 + 1) ≤ B * pneed n len sid tb n0 n1 n2 m := Int.mul_le_mul_of_nonneg_left (by omega) (by omega)
      rw [Int.mul_add, Int.mul_one] at k3
      have k4 : A * phas3 len p0 p1 p2 < A * pneed n len sid tb p0 p1 p2 m := by omega
      exact Int.lt_of_mul_lt_mul_left k4 (by omega)
    · try dsimp only
      by_cases hz : zbit m j
      · rw [bb_mul_t hz, bb_mul_t hz]
        have ht : ∃ t, pturn len sid tb j t := Classical.not_not.mp (fun hc => c ⟨j, by omega, hz, hc⟩)
        obtain ⟨r, hr⟩ := isLeast_ex len sid tb p0 p1 p2 j
        obtain ⟨w, hw⟩ := isLeast_ex len sid tb n0 n1 n2 j
        rw [pleast_eq hr, pleast_eq hw]
        have e : ∃ t, pturn len sid tb j t ∧ r = pprod len sid p0 p1 p2 j t := by
          rcases hr.2.2 with e | e
          · obtain ⟨t, h3⟩ := ht
            have a3 := hr.2.1 t h3
            have a4 := (prod_in hk (by omega) h3.2.2 q0 q1 q2).2
            omega
          · exact e
        obtain ⟨t, h3, e⟩ := e
        rw [e]
        have a3 := hw.2.1 t h3
        have a4 := hp j t a1 (by omega) h3
        have a5 : B * w ≤ B * pprod len sid n0 n1 n2 j t := Int.mul_le_mul_of_nonneg_left a3 (by omega)
        omega
      · rw [bb_mul_f hz, bb_mul_f hz]; omega
/-- of a turn that a box has and that fits: what pdom says -/
theorem pdom_turn {S : jMem} (hk : cOK S) (hd : dOK S) {a p n b t : Int} (ha : 0 ≤ a ∧ a < 3) (h : pdom S a p n) (hb : 0 ≤ b ∧ b < S 1 4) (ht : pturn (S 2) (S 3) (S 4) b t) : pworth (S 2 a) n (pext (S 3) b t a) * pworth (S 2 a) p (S 2 a) ≤ pworth (S 2 a) p (pext (S 3) b t a) * pworth (S 2 a) n (S 2 a) := by
  obtain ⟨u, u1, u2, u3⟩ := pcounts_of _ t rfl ht
  obtain ⟨i, i1, i2⟩ := (hd.2.2 b hb.1 hb.2).2.2 u (by omega) (by omega) u2
  have f0 := hd.2.1 b hb.1 (by omega)
  have fl := first_le hd _ (b + 1) (S 1 4) rfl (by omega) (by omega) (Int.le_refl _)
  have q := h i (by omega) (by omega)
  have e : S 28 (i * 3 + a) = pext (S 3) b t a := by
    rcases (show a = 0 ∨ a = 1 ∨ a = 2 by omega) with rfl | rfl | rfl
    · exact i2.1.trans u3.1
    · exact i2.2.1.trans u3.2.1
    · exact i2.2.2.trans u3.2.2
  rw [e] at q
  exact q
theorem dom0 {S : jMem} (hk : cOK S) (hd : dOK S) {p n0 n1 n2 m : Int} (h : pdom S 0 p n0) (f0 : isFn S 0 n0) (fp : isFn S 0 p) (f1 : isFn S 1 n1) (f2 : isFn S 2 n2) (ht : pprove (S 1 4) (S 2) (S 3) (S 4) n0 n1 n2 m) : pprove (S 1 4) (S 2) (S 3) (S 4) p n1 n2 m := by
  have l0 := hk.2.1 0 (by omega) (by omega)
  have l1 := hk.2.1 1 (by omega) (by omega)
  have l2 := hk.2.1 2 (by omega) (by omega)
  have w := pworth_in l0 f0 (x := S 2 0) (by omega)
  have w' := pworth_in l0 fp (x := S 2 0) (by omega)
  refine prove_of hk f0 f1 f2 fp f1 f2 (A := pworth (S 2 0) n0 (S 2 0)) (B := pworth (S 2 0) p (S 2 0)) (by omega) (by omega) ?_ (fun b t b0 b1 hb => ?_) ht
  · unfold phas3
    ac_rfl
  · have q := pdom_turn hk hd (a := 0) (by omega) h ⟨b0, b1⟩ hb
    have hn := hk.1
    have e1 := pext_in hk (b := b) (t := t) (a := 1) (by omega) (by omega)
    have e2 := pext_in hk (b := b) (t := t) (a := 2) (by omega) (by omega)
    have w1 := pworth_in l1 f1 (x := pext (S 3) b t 1) (by have := hb.2.2; omega)
    have w2 := pworth_in l2 f2 (x := pext (S 3) b t 2) (by have := hb.2.2; omega)
    have := Int.mul_le_mul_of_nonneg_right q (Int.mul_nonneg w1.1 w2.1)
    unfold pprod
    have e3 : pworth (S 2 0) p (S 2 0) * (pworth (S 2 0) n0 (pext (S 3) b t 0) * pworth (S 2 1) n1 (pext (S 3) b t 1) * pworth (S 2 2) n2 (pext (S 3) b t 2)) = pworth (S 2 0) n0 (pext (S 3) b t 0) * pworth (S 2 0) p (S 2 0) * (pworth (S 2 1) n1 (pext (S 3) b t 1) * pworth (S 2 2) n2 (pext (S 3) b t 2)) := by ac_rfl
    have e4 : pworth (S 2 0) n0 (S 2 0) * (pworth (S 2 0) p (pext (S 3) b t 0) * pworth (S 2 1) n1 (pext (S 3) b t 1) * pworth (S 2 2) n2 (pext (S 3) b t 2)) = pworth (S 2 0) p (pext (S 3) b t 0) * pworth (S 2 0) n0 (S 2 0) * (pworth (S 2 1) n1 (pext (S 3) b t 1) * pworth (S 2 2) n2 (pext (S 3) b t 2)) := by ac_rfl
    rw [e3, e4]
    exact this
theorem dom1 {S : jMem} (hk : cOK S) (hd : dOK S) {p n0 n1 n2 m : Int} (h : pdom S 1 p n1) (f0 : isFn S 0 n0) (fp : isFn S 1 p) (f1 : isFn S 1 n1) (f2 : isFn S 2 n2) (ht : pprove (S 1 4) (S 2) (S 3) (S 4) n0 n1 n2 m) : pprove (S 1 4) (S 2) (S 3) (S 4) n0 p n2 m := by
  have l0 := hk.2.1 0 (by omega) (by omega)
  have l1 := hk.2.1 1 (by omega) (by omega)
  have l2 := hk.2.1 2 (by omega) (by omega)
  have w := pworth_in l1 f1 (x := S 2 1) (by omega)
  have w' := pworth_in l1 fp (x := S 2 1) (by omega)
  refine prove_of hk f0 f1 f2 f0 fp f2 (A := pworth (S 2 1) n1 (S 2 1)) (B := pworth (S 2 1) p (S 2 1)) (by omega) (by omega) ?_ (fun b t b0 b1 hb => ?_) ht
  · unfold phas3
    ac_rfl
  · have q := pdom_turn hk hd (a := 1) (by omega) h ⟨b0, b1⟩ hb
    have hn := hk.1
    have e1 := pext_in hk (b := b) (t := t) (a := 0) (by omega) (by omega)
    have e2 := pext_in hk (b := b) (t := t) (a := 2) (by omega) (by omega)
    have w1 := pworth_in l0 f0 (x := pext (S 3) b t 0) (by have := hb.2.2; omega)
    have w2 := pworth_in l2 f2 (x := pext (S 3) b t 2) (by have := hb.2.2; omega)
    have := Int.mul_le_mul_of_nonneg_right q (Int.mul_nonneg w1.1 w2.1)
    unfold pprod
    have e3 : pworth (S 2 1) p (S 2 1) * (pworth (S 2 0) n0 (pext (S 3) b t 0) * pworth (S 2 1) n1 (pext (S 3) b t 1) * pworth (S 2 2) n2 (pext (S 3) b t 2)) = pworth (S 2 1) n1 (pext (S 3) b t 1) * pworth (S 2 1) p (S 2 1) * (pworth (S 2 0) n0 (pext (S 3) b t 0) * pworth (S 2 2) n2 (pext (S 3) b t 2)) := by ac_rfl
    have e4 : pworth (S 2 1) n1 (S 2 1) * (pworth (S 2 0) n0 (pext (S 3) b t 0) * pworth (S 2 1) p (pext (S 3) b t 1) * pworth (S 2 2) n2 (pext (S 3) b t 2)) = pworth (S 2 1) p (pext (S 3) b t 1) * pworth (S 2 1) n1 (S 2 1) * (pworth (S 2 0) n0 (pext (S 3) b t 0) * pworth (S 2 2) n2 (pext (S 3) b t 2)) := by ac_rfl
    rw [e3, e4]
    exact this
theorem dom2 {S : jMem} (hk : cOK S) (hd : dOK S) {p n0 n1 n2 m : Int} (h : pdom S 2 p n2) (f0 : isFn S 0 n0) (fp : isFn S 2 p) (f1 : isFn S 1 n1) (f2 : isFn S 2 n2) (ht : pprove (S 1 4) (S 2) (S 3) (S 4) n0 n1 n2 m) : pprove (S 1 4) (S 2) (S 3) (S 4) n0 n1 p m := by
  have l0 := hk.2.1 0 (by omega) (by omega)
  have l1 := hk.2.1 1 (by omega) (by omega)
  have l2 := hk.2.1 2 (by omega) (by omega)
  have w := pworth_in l2 f2 (x := S 2 2) (by omega)
  have w' := pworth_in l2 fp (x := S 2 2) (by omega)
  refine prove_of hk f0 f1 f2 f0 f1 fp (A := pworth (S 2 2) n2 (S 2 2)) (B := pworth (S 2 2) p (S 2 2)) (by omega) (by omega) ?_ (fun b t b0 b1 hb => ?_) ht
  · unfold phas3
    ac_rfl
  · have q := pdom_turn hk hd (a := 2) (by omega) h ⟨b0, b1⟩ hb
    have hn := hk.1
    have e1 := pext_in hk (b := b) (t := t) (a := 0) (by omega) (by omega)
    have e2 := pext_in hk (b := b) (t := t) (a := 1) (by omega) (by omega)
    have w1 := pworth_in l0 f0 (x := pext (S 3) b t 0) (by have := hb.2.2; omega)
    have w2 := pworth_in l1 f1 (x := pext (S 3) b t 1) (by have := hb.2.2; omega)
    have := Int.mul_le_mul_of_nonneg_right q (Int.mul_nonneg w1.1 w2.1)
    unfold pprod
    have e3 : pworth (S 2 2) p (S 2 2) * (pworth (S 2 0) n0 (pext (S 3) b t 0) * pworth (S 2 1) n1 (pext (S 3) b t 1) * pworth (S 2 2) n2 (pext (S 3) b t 2)) = pworth (S 2 2) n2 (pext (S 3) b t 2) * pworth (S 2 2) p (S 2 2) * (pworth (S 2 0) n0 (pext (S 3) b t 0) * pworth (S 2 1) n1 (pext (S 3) b t 1)) := by ac_rfl
    have e4 : pworth (S 2 2) n2 (S 2 2) * (pworth (S 2 0) n0 (pext (S 3) b t 0) * pworth (S 2 1) n1 (pext (S 3) b t 1) * pworth (S 2 2) p (pext (S 3) b t 2)) = pworth (S 2 2) p (pext (S 3) b t 2) * pworth (S 2 2) n2 (S 2 2) * (pworth (S 2 0) n0 (pext (S 3) b t 0) * pworth (S 2 1) n1 (pext (S 3) b t 1)) := by ac_rfl
    rw [e3, e4]
    exact this
/-- which of three is first -/
def lex3 (a b c a' b' c' : Int) : Prop := a < a' ∨ (a = a' ∧ (b < b' ∨ (b = b' ∧ c < c')))
/-- a proof has one by functions that are tried, none of them later -/
theorem tried_of {S : jMem} (hk : cOK S) (hd : dOK S) (t0 : trOK S 0) (t1 : trOK S 1) (t2 : trOK S 2) {a b c m : Int} (f0 : isFn S 0 a) (f1 : isFn S 1 b) (f2 : isFn S 2 c) (h : pprove (S 1 4) (S 2) (S 3) (S 4) a b c m) : ∃ a' b' c', (isFn S 0 a' ∧ a' ≤ a ∧ zbit (S 31 0) a') ∧ (isFn S 1 b' ∧ b' ≤ b ∧ zbit (S 31 1) b') ∧ (isFn S 2 c' ∧ c' ≤ c ∧ zbit (S 31 2) c') ∧ pprove (S 1 4) (S 2) (S 3) (S 4) a' b' c' m := by
  obtain ⟨a', g0, ha⟩ : ∃ a', (isFn S 0 a' ∧ a' ≤ a ∧ zbit (S 31 0) a') ∧ pprove (S 1 4) (S 2) (S 3) (S 4) a' b c m := by
    rcases t0.2 a f0 with q | ⟨p, p1, p2, p3⟩
    · exact ⟨a, ⟨f0, Int.le_refl _, q⟩, h⟩
    · exact ⟨p, ⟨⟨p1.1, by have := f0.2; omega⟩, by omega, p2⟩, dom0 hk hd p3 f0 ⟨p1.1, by have := f0.2; omega⟩ f1 f2 h⟩
  obtain ⟨b', g1, hb⟩ : ∃ b', (isFn S 1 b' ∧ b' ≤ b ∧ zbit (S 31 1) b') ∧ pprove (S 1 4) (S 2) (S 3) (S 4) a' b' c m := by
    rcases t1.2 b f1 with q | ⟨p, p1, p2, p3⟩
    · exact ⟨b, ⟨f1, Int.le_refl _, q⟩, ha⟩
    · exact ⟨p, ⟨⟨p1.1, by have := f1.2; omega⟩, by omega, p2⟩, dom1 hk hd p3 g0.1 ⟨p1.1, by have := f1.2; omega⟩ f1 f2 ha⟩
  obtain ⟨c', g2, hc⟩ : ∃ c', (isFn S 2 c' ∧ c' ≤ c ∧ zbit (S 31 2) c') ∧ pprove (S 1 4) (S 2) (S 3) (S 4) a' b' c' m := by
    rcases t2.2 c f2 with q | ⟨p, p1, p2, p3⟩
    · exact ⟨c, ⟨f2, Int.le_refl _, q⟩, hb⟩
    · exact ⟨p, ⟨⟨p1.1, by have := f2.2; omega⟩, by omega, p2⟩, dom2 hk hd p3 g0.1 ⟨p1.1, by have := f2.2; omega⟩ g1.1 f2 hb⟩
  exact ⟨a', b', c', g0, g1, g2, hc⟩
/-- THE PROOF, as the answers tell it -/
def isProof (n : Int) (len sid tb : Int → Int) (g : Int → Int) : Prop :=
  ((∀ a b c, (0 ≤ a ∧ a ≤ len 0 / 2 * 2) → (0 ≤ b ∧ b ≤ len 1 / 2 * 2) → (0 ≤ c ∧ c ≤ len 2 / 2 * 2) → ¬ pprove n len sid tb a b c (pall n)) ∧ g 0 = -9 ∧ g 1 = -9 ∧ g 2 = -9 ∧ g 3 = -9) ∨
  ∃ a b c, (0 ≤ a ∧ a ≤ len 0 / 2 * 2) ∧ (0 ≤ b ∧ b ≤ len 1 / 2 * 2) ∧ (0 ≤ c ∧ c ≤ len 2 / 2 * 2) ∧ pprove n len sid tb a b c (pall n) ∧ (∀ a' b' c', (0 ≤ a' ∧ a' ≤ len 0 / 2 * 2) → (0 ≤ b' ∧ b' ≤ len 1 / 2 * 2) → (0 ≤ c' ∧ c' ≤ len 2 / 2 * 2) → lex3 a' b' c' a b c → ¬ pprove n len sid tb a' b' c' (pall n)) ∧
    g 0 = a ∧ g 1 = b ∧ g 2 = c ∧ g 3 = preason (pprove n len sid tb a b c) (n - 0).toNat 0 (pall n)
theorem isProof.uniq {n : Int} {len sid tb g h : Int → Int} (hg : isProof n len sid tb g) (hh : isProof n len sid tb h) : g 0 = h 0 ∧ g 1 = h 1 ∧ g 2 = h 2 ∧ g 3 = h 3 := by
  rcases hg with ⟨x1, x2⟩ | ⟨a, b, c, fa, fb, fc, ht, hl, e0, e1, e2, e3⟩ <;> rcases hh with ⟨y1, y2⟩ | ⟨a', b', c', ga, gb, gc, kt, kl, d0, d1, d2, d3⟩
  · omega
  · exact absurd kt (x1 a' b' c' ga gb gc)
  · exact absurd ht (y1 a b c fa fb fc)
  · have n1 : ¬ lex3 a' b' c' a b c := fun q => hl a' b' c' ga gb gc q kt
    have n2 : ¬ lex3 a b c a' b' c' := fun q => kl a b c fa fb fc q ht
    unfold lex3 at n1 n2
    have ea : a = a' := by omega
    have eb : b = b' := by omega
    have ec : c = c' := by omega
    subst ea; subst eb; subst ec
    exact ⟨e0.trans d0.symm, e1.trans d1.symm, e2.trans d2.symm, e3.trans d3.symm⟩
