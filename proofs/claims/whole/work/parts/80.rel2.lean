/-! what is laid, on both sides -/
theorem isum_addf (f g : Int → Int) : ∀ (n : Nat) (i : Int), isum (fun j => f j + g j) i n = isum f i n + isum g i n
  | 0, _ => rfl
  | n + 1, i => by
    have h := isum_addf f g n (i + 1)
    show f i + g i + isum (fun j => f j + g j) (i + 1) n = f i + isum f (i + 1) n + (g i + isum g (i + 1) n)
    rw [h]; omega
theorem isum_two (f : Int → Int) (n : Nat) (i : Int) : isum (fun j => 2 * f j) i n = 2 * isum f i n := by
  have h := isum_addf f f n i
  have e : (fun j => 2 * f j) = fun j => f j + f j := by funext j; omega
  rw [e, h]; omega
/-- beyond the boxes there is nothing -/
theorem isum_tail {f : Int → Int} {n : Int} (hn : 0 ≤ n) : ∀ k : Nat, (∀ j, n ≤ j → j < n + k → f j = 0) → isum f 0 (n + k).toNat = isum f 0 n.toNat
  | 0, _ => by rw [show n + ((0 : Nat) : Int) = n by omega]
  | k + 1, h => by
    rw [show (n + ((k + 1 : Nat) : Int)).toNat = (n + (k : Int)).toNat + 1 by omega, isum_last, isum_tail hn k (fun j a b => h j a (by omega)), Int.zero_add, show (((n + (k : Int)).toNat : Nat) : Int) = n + k by omega, h (n + k) (by omega) (by omega)]; omega
theorem isum_to8 {f : Int → Int} {n : Int} (hn : 0 ≤ n ∧ n ≤ 8) (h : ∀ j, n ≤ j → j < 8 → f j = 0) : isum f 0 (8 : Int).toNat = isum f 0 n.toNat := by
  have := isum_tail hn.1 (8 - n).toNat (fun j a b => h j a (by omega))
  rw [show n + (((8 - n).toNat : Nat) : Int) = 8 by omega] at this
  exact this
/-- pairs, counted from the lower or from the higher one -/
theorem pairs_swap (f : Int → Int → Int) : ∀ N : Nat, isum (fun a => isum (f a) (a + 1) ((N : Int) - (a + 1)).toNat) 0 N = isum (fun a => isum (fun b => f b a) 0 a.toNat) 0 N
  | 0 => rfl
  | N + 1 => by
    have ih := pairs_swap f N
    rw [isum_last, isum_last, Int.zero_add, ← ih]
    have e1 : isum (f (N : Int)) ((N : Int) + 1) (((N + 1 : Nat) : Int) - ((N : Int) + 1)).toNat = 0 := by
      rw [show (((N + 1 : Nat) : Int) - ((N : Int) + 1)).toNat = 0 by omega]; rfl
    have e2 : isum (fun a => isum (f a) (a + 1) (((N + 1 : Nat) : Int) - (a + 1)).toNat) 0 N = isum (fun a => isum (f a) (a + 1) ((N : Int) - (a + 1)).toNat + f a N) 0 N := isum_congr _ 0 (fun j j1 j2 => by
      rw [show (((N + 1 : Nat) : Int) - (j + 1)).toNat = ((N : Int) - (j + 1)).toNat + 1 by omega, isum_last, show j + 1 + ((((N : Int) - (j + 1)).toNat : Nat) : Int) = (N : Int) by omega])
    rw [e1, e2, isum_addf, Int.add_zero, Int.toNat_natCast]
theorem isum_part {f : Int → Int} : ∀ {n : Nat} {i : Int}, (∀ q, i ≤ q → q < i + n → 0 ≤ f q) → ∀ j, i ≤ j → j < i + n → f j ≤ isum f i n
  | 0, i, _, j, h1, h2 => by omega
  | n + 1, i, h, j, h1, h2 => by
    show f j ≤ f i + isum f (i + 1) n
    have h3 := h i (by omega) (by omega)
    by_cases e : j = i
    · subst e
      have h4 : 0 ≤ isum f (j + 1) n := by
        clear h1 h2 h3
        have : ∀ (m : Nat) (k : Int), (∀ q, k ≤ q → q < k + m → 0 ≤ f q) → 0 ≤ isum f k m := by
          intro m
          induction m with
          | zero => intro k _; exact Int.le_refl 0
          | succ m ih =>
            intro k hk
            show 0 ≤ f k + isum f (k + 1) m
            have a1 := hk k (by omega) (by omega)
            have a2 := ih (k + 1) (fun q q1 q2 => hk q (by omega) (by omega))
            omega
        exact this n (j + 1) (fun q q1 q2 => h q (by omega) (by omega))
      omega
    · have := isum_part (n := n) (i := i + 1) (fun q q1 q2 => h q (by omega) (by omega)) j (by omega) (by omega)
      omega
section La
variable {S M : jMem}
theorem laR.bit (h : laR S M) {b : Int} (hb : 0 ≤ b ∧ b < 8) : zbit (S 18 4) b ↔ 0 < M 5 b := by
  rw [h.2.2.2.1.2 b hb.1]
  refine ⟨fun q => q.2, fun q => ⟨?_, q⟩⟩
  rcases Int.lt_or_le b (M 0 1) with c | c
  · exact c
  · have := h.1.2.2 b c hb.2; omega
theorem laR.z (h : laR S M) {b : Int} (hb : 0 ≤ b ∧ b < 8) : ¬ zbit (S 18 4) b ↔ M 5 b = 0 := by
  rw [h.bit hb]
  have := h.1.1 b hb.1 hb.2
  omega
theorem pgap_eq {bg en bg' en' : Int → Int} {a b : Int} (ha : ∀ x, 0 ≤ x → x < 3 → bg (a * 3 + x) = bg' (a * 3 + x) ∧ en (a * 3 + x) = en' (a * 3 + x)) (hb : ∀ x, 0 ≤ x → x < 3 → bg (b * 3 + x) = bg' (b * 3 + x) ∧ en (b * 3 + x) = en' (b * 3 + x)) : pgap bg en a b = pgap bg' en' a b := by
  unfold pgap
  rw [(ha 0 (by omega) (by omega)).1, (ha 0 (by omega) (by omega)).2, (ha 1 (by omega) (by omega)).1, (ha 1 (by omega) (by omega)).2, (ha 2 (by omega) (by omega)).1, (ha 2 (by omega) (by omega)).2, (hb 0 (by omega) (by omega)).1, (hb 0 (by omega) (by omega)).2, (hb 1 (by omega) (by omega)).1, (hb 1 (by omega) (by omega)).2, (hb 2 (by omega) (by omega)).1, (hb 2 (by omega) (by omega)).2]
theorem pgap_sym {bg en : Int → Int} {a b : Int} : pgap bg en a b = -9 ↔ pgap bg en b a = -9 := by
  unfold pgap
  constructor
  · intro h
    repeat' split at h
    all_goals first | omega | (repeat' split) <;> omega
  · intro h
    repeat' split at h
    all_goals first | omega | (repeat' split) <;> omega
theorem laR.gap (h : laR S M) {a b : Int} (ha : 0 ≤ a) (hb : 0 ≤ b) (za : zbit (S 18 4) a) (zb : zbit (S 18 4) b) : pgap (S 20) (S 21) a b = pgap (M 6) (men M) a b := pgap_eq (h.2.2.2.2 a ha za).2 (h.2.2.2.2 b hb zb).2
theorem laR.ovl (h : laR S M) (hn : 0 ≤ M 0 1 ∧ M 0 1 ≤ 8) : povs (S 18 4) (S 20) (S 21) = movs M := by
  have key : ∀ a b, 0 ≤ a → a < 8 → 0 ≤ b → b < 8 → povl (S 18 4) (S 20) (S 21) b a = movl M a b := fun a b a1 a2 b1 b2 => by
    unfold povl movl
    apply bb_c
    rw [h.bit ⟨a1, a2⟩, h.bit ⟨b1, b2⟩]
    constructor
    · rintro ⟨q1, q2, q3⟩
      rw [h.gap b1 a1 ((h.bit ⟨b1, b2⟩).mpr q1) ((h.bit ⟨a1, a2⟩).mpr q2)] at q3
      exact ⟨q2, q1, pgap_sym.mp q3⟩
    · rintro ⟨q1, q2, q3⟩
      refine ⟨q2, q1, ?_⟩
      rw [h.gap b1 a1 ((h.bit ⟨b1, b2⟩).mpr q2) ((h.bit ⟨a1, a2⟩).mpr q1)]
      exact pgap_sym.mp q3
  have e1 : povs (S 18 4) (S 20) (S 21) = isum (fun a => isum (fun b => povl (S 18 4) (S 20) (S 21) b a) 0 a.toNat) 0 8 := by
    unfold povs
    exact pairs_swap (povl (S 18 4) (S 20) (S 21)) 8
  have e2 : isum (fun a => isum (fun b => povl (S 18 4) (S 20) (S 21) b a) 0 a.toNat) 0 8 = isum (fun a => isum (movl M a) 0 (a - 0).toNat) 0 8 := isum_congr 8 0 (fun a a1 a2 => by
    show isum (fun b => povl (S 18 4) (S 20) (S 21) b a) 0 a.toNat = isum (movl M a) 0 (a - 0).toNat
    rw [Int.sub_zero]
    exact isum_congr _ 0 (fun b b1 b2 => key a b a1 (by omega) b1 (by omega)))
  have e3 := isum_to8 (f := fun a => isum (movl M a) 0 (a - 0).toNat) hn (fun j j1 j2 => by
    have z := h.1.2.2 j j1 j2
    have : isum (movl M j) 0 (j - 0).toNat = isum (fun _ => 0) 0 (j - 0).toNat := isum_congr _ 0 (fun b b1 b2 => bb_f (fun q => by have := q.1; omega))
    show isum (movl M j) 0 (j - 0).toNat = 0
    rw [this]
    have := isum_in (f := fun _ : Int => (0 : Int)) (B := 0) (j - 0).toNat 0 (fun _ _ _ => ⟨Int.le_refl _, Int.le_refl _⟩)
    omega)
  rw [e1, e2]
  unfold movs
  rw [Int.sub_zero]
  exact e3
theorem laR.wsum (h : laR S M) (hn : 0 ≤ M 0 1 ∧ M 0 1 ≤ 8) (h5 : S 5 = M 3) : 2 * pwsum (S 18 4) (S 5) = mbelow M := by
  unfold pwsum mbelow
  rw [← isum_two, Int.sub_zero, Int.sub_zero]
  have e3 := isum_to8 (f := fun b => bb (0 < M 5 b) * (2 * M 3 b)) hn (fun j j1 j2 => by
    have z := h.1.2.2 j j1 j2
    show bb (0 < M 5 j) * (2 * M 3 j) = 0
    rw [bb_mul_f (by omega)])
  rw [← e3]
  refine isum_congr _ 0 (fun j j1 j2 => ?_)
  have hb : 0 ≤ j ∧ j < 8 := by
    have : (((8 : Int).toNat : Nat) : Int) = 8 := rfl
    omega
  show 2 * (bb (zbit (S 18 4) j) * S 5 j) = bb (0 < M 5 j) * (2 * M 3 j)
  rw [bb_c (h.bit hb), h5]
  rcases bb_or (0 < M 5 j) with q | q
  · rw [q]; omega
  · rw [q]; omega
theorem laR.mom (h : laR S M) (hn : 0 ≤ M 0 1 ∧ M 0 1 ≤ 8) (h5 : S 5 = M 3) {x : Int} (hx : 0 ≤ x ∧ x < 3) : pmom (S 18 4) (S 5) (S 20) (S 21) x = mabove M x := by
  unfold pmom mabove
  rw [Int.sub_zero, Int.sub_zero]
  have e3 := isum_to8 (f := fun b => bb (0 < M 5 b) * (M 3 b * (M 6 (b * 3 + x) + men M (b * 3 + x)))) hn (fun j j1 j2 => by
    have z := h.1.2.2 j j1 j2
    show bb (0 < M 5 j) * _ = 0
    rw [bb_mul_f (by omega)])
  rw [← e3]
  refine isum_congr _ 0 (fun j j1 j2 => ?_)
  have hb : 0 ≤ j ∧ j < 8 := by
    have : (((8 : Int).toNat : Nat) : Int) = 8 := rfl
    omega
  show bb (zbit (S 18 4) j) * (S 5 j * (S 20 (j * 3 + x) + S 21 (j * 3 + x))) = bb (0 < M 5 j) * (M 3 j * (M 6 (j * 3 + x) + men M (j * 3 + x)))
  by_cases c : zbit (S 18 4) j
  · have q := (h.2.2.2.2 j hb.1 c).2 x hx.1 hx.2
    rw [bb_t c, bb_t ((h.bit hb).mp c), q.1, q.2, h5]
  · rw [bb_mul_f c, bb_mul_f (fun q => c ((h.bit hb).mpr q))]
theorem pcom_eq {bg en bg' en' : Int → Int} {a b x : Int} (ha : bg (a * 3 + x) = bg' (a * 3 + x) ∧ en (a * 3 + x) = en' (a * 3 + x)) (hb : bg (b * 3 + x) = bg' (b * 3 + x) ∧ en (b * 3 + x) = en' (b * 3 + x)) : pcom bg en a b x = pcom bg' en' b a x := by
  unfold pcom; rw [ha.1, ha.2, hb.1, hb.2]; omega
theorem laR.held (h : laR S M) (hk : mOK M) {b : Int} (hb : 0 ≤ b ∧ b < M 0 1) (hz : zbit (S 18 4) b) : (if S 20 (b * 3 + 2) = 0 then (S 21 (b * 3 + 0) - S 20 (b * 3 + 0)) * (S 21 (b * 3 + 1) - S 20 (b * 3 + 1)) else isum (pheld (S 18 4) (S 20) (S 21) b) 0 (8 - 0 : Int).toNat) = (if M 6 (b * 3 + 2) = 0 then pcom (M 6) (men M) b b 0 * pcom (M 6) (men M) b b 1 else isum (mheld M b) 0 (M 0 1 - 0).toNat) := by
  have hn := hk.1
  have hv := (h.2.2.2.2 b hb.1 hz).2
  have h5 := (h.bit (b := b) (by omega)).mp hz
  have v0 := hv 0 (by omega) (by omega)
  have v1 := hv 1 (by omega) (by omega)
  have v2 := hv 2 (by omega) (by omega)
  have p0 := h.2.1.men hk (b := b) (x := 0) hb h5 (by omega)
  have p1 := h.2.1.men hk (b := b) (x := 1) hb h5 (by omega)
  have p2 := h.2.1.men hk (b := b) (x := 2) hb h5 (by omega)
  rw [v2.1, v0.1, v0.2, v1.1, v1.2]
  by_cases c : M 6 (b * 3 + 2) = 0
  · rw [if_pos c, if_pos c]
    have e0 : pcom (M 6) (men M) b b 0 = men M (b * 3 + 0) - M 6 (b * 3 + 0) := by unfold pcom; omega
    have e1 : pcom (M 6) (men M) b b 1 = men M (b * 3 + 1) - M 6 (b * 3 + 1) := by unfold pcom; omega
    rw [e0, e1]
  · rw [if_neg c, if_neg c, Int.sub_zero, Int.sub_zero]
    have e3 := isum_to8 (f := mheld M b) hn (fun j j1 j2 => by
      have z := h.1.2.2 j j1 j2
      unfold mheld
      rw [bb_mul_f (fun q => by have := q.2.1; omega)])
    rw [← e3]
    refine isum_congr _ 0 (fun j j1 j2 => ?_)
    have hj : 0 ≤ j ∧ j < 8 := by
      have : (((8 : Int).toNat : Nat) : Int) = 8 := rfl
      omega
    unfold pheld mheld
    by_cases cz : zbit (S 18 4) j
    · have q := (h.2.2.2.2 j hj.1 cz).2
      have q2 := q 2 (by omega) (by omega)
      rw [q2.2, v2.1, pcom_eq (bg' := M 6) (en' := men M) v0 (q 0 (by omega) (by omega)), pcom_eq (bg' := M 6) (en' := men M) v1 (q 1 (by omega) (by omega))]
      congr 1
      apply bb_c
      constructor
      · rintro ⟨w1, w2⟩
        exact ⟨fun e => by subst e; omega, (h.bit hj).mp cz, w2⟩
      · rintro ⟨w1, w2, w3⟩
        exact ⟨cz, w3⟩
    · rw [bb_mul_f (fun w => cz w.1), bb_mul_f (fun w => cz ((h.bit hj).mpr w.2.1))]
end La
section Rm
variable {S M S' M' : jMem} {v u : Int}
theorem REL.place (h : REL S M) {b w : Int} : (if (0 ≤ b ∧ b < S 1 4) ∧ (0 ≤ w ∧ w ≤ 6) then (if zbit (S 18 4) b then (if w < 3 then S 20 (b * 3 + w) else if w = 3 then S 19 b else S 21 (b * 3 + (w - 4)) - S 20 (b * 3 + (w - 4))) else -9) else -1) = (if (0 ≤ b ∧ b < M 0 1) ∧ (0 ≤ w ∧ w ≤ 6) then (if M 5 b = 0 then -9 else if w < 3 then M 6 (b * 3 + w) else if w = 3 then M 5 b - 1 else men M (b * 3 + (w - 4)) - M 6 (b * 3 + (w - 4))) else -1) := by
  have hn := h.2.1.1
  have la := h.2.2.2.2.1
  rw [h.1.1]
  by_cases c : (0 ≤ b ∧ b < M 0 1) ∧ (0 ≤ w ∧ w ≤ 6)
  · rw [if_pos c, if_pos c]
    by_cases z : zbit (S 18 4) b
    · rw [if_pos z, if_neg (fun q => (la.z (b := b) (by omega)).mpr q z)]
      have q := la.2.2.2.2 b c.1.1 z
      by_cases w3 : w < 3
      · rw [if_pos w3, if_pos w3, (q.2 w c.2.1 w3).1]
      · rw [if_neg w3, if_neg w3]
        by_cases w4 : w = 3
        · rw [if_pos w4, if_pos w4, q.1]
        · rw [if_neg w4, if_neg w4]
          have q2 := q.2 (w - 4) (by omega) (by omega)
          rw [q2.1, q2.2]
    · rw [if_neg z, if_pos ((la.z (b := b) (by omega)).mp z)]
  · rw [if_neg c, if_neg c]
theorem REL.relative (h : REL S M) {a b : Int} : (if (0 ≤ a ∧ a < S 1 4) ∧ (0 ≤ b ∧ b < S 1 4) ∧ ¬ a = b then (if zbit (S 18 4) a ∧ zbit (S 18 4) b then pgap (S 20) (S 21) a b else -2) else -1) = (if (0 ≤ a ∧ a < M 0 1) ∧ (0 ≤ b ∧ b < M 0 1) ∧ ¬ a = b then (if M 5 a = 0 ∨ M 5 b = 0 then -2 else pgap (M 6) (men M) a b) else -1) := by
  have hn := h.2.1.1
  have la := h.2.2.2.2.1
  rw [h.1.1]
  by_cases c : (0 ≤ a ∧ a < M 0 1) ∧ (0 ≤ b ∧ b < M 0 1) ∧ ¬ a = b
  · rw [if_pos c, if_pos c]
    by_cases za : zbit (S 18 4) a
    · by_cases zb : zbit (S 18 4) b
      · rw [if_pos ⟨za, zb⟩, if_neg (fun q => q.elim (fun w => (la.z (b := a) (by omega)).mpr w za) (fun w => (la.z (b := b) (by omega)).mpr w zb)), la.gap c.1.1 c.2.1.1 za zb]
      · rw [if_neg (fun q => zb q.2), if_pos (Or.inr ((la.z (b := b) (by omega)).mp zb))]
    · rw [if_neg (fun q => za q.1), if_pos (Or.inl ((la.z (b := a) (by omega)).mp za))]
  · rw [if_neg c, if_neg c]
theorem REL.support (h : REL S M) {b : Int} : (if 0 ≤ b ∧ b < S 1 4 then (if zbit (S 18 4) b then (if S 20 (b * 3 + 2) = 0 then (S 21 (b * 3 + 0) - S 20 (b * 3 + 0)) * (S 21 (b * 3 + 1) - S 20 (b * 3 + 1)) else isum (pheld (S 18 4) (S 20) (S 21) b) 0 (8 - 0 : Int).toNat) else -2) else -1) = (if 0 ≤ b ∧ b < M 0 1 then (if M 5 b = 0 then -2 else if M 6 (b * 3 + 2) = 0 then pcom (M 6) (men M) b b 0 * pcom (M 6) (men M) b b 1 else isum (mheld M b) 0 (M 0 1 - 0).toNat) else -1) := by
  have hn := h.2.1.1
  have la := h.2.2.2.2.1
  rw [h.1.1]
  by_cases c : 0 ≤ b ∧ b < M 0 1
  · rw [if_pos c, if_pos c]
    by_cases z : zbit (S 18 4) b
    · rw [if_pos z, if_neg (fun q => (la.z (b := b) (by omega)).mpr q z), la.held h.2.1 c z]
    · rw [if_neg z, if_pos ((la.z (b := b) (by omega)).mp z)]
  · rw [if_neg c, if_neg c]
theorem REL.centre (h : REL S M) {x p : Int} : (if (0 ≤ x ∧ x ≤ 2) ∧ (0 ≤ p ∧ p ≤ 1) then (if zgcd (pmom (S 18 4) (S 5) (S 20) (S 21) x) (2 * pwsum (S 18 4) (S 5)) = 0 then 0 else if p = 0 then (pmom (S 18 4) (S 5) (S 20) (S 21) x) / zgcd (pmom (S 18 4) (S 5) (S 20) (S 21) x) (2 * pwsum (S 18 4) (S 5)) else (2 * pwsum (S 18 4) (S 5)) / zgcd (pmom (S 18 4) (S 5) (S 20) (S 21) x) (2 * pwsum (S 18 4) (S 5))) else -1) = (if (0 ≤ x ∧ x ≤ 2) ∧ (0 ≤ p ∧ p ≤ 1) then (if mbelow M = 0 then 0 else if p = 0 then mabove M x / zgcd (mabove M x) (mbelow M) else mbelow M / zgcd (mabove M x) (mbelow M)) else -1) := by
  have hk := h.2.1
  have hn := hk.1
  have la := h.2.2.2.2.1
  by_cases c : (0 ≤ x ∧ x ≤ 2) ∧ (0 ≤ p ∧ p ≤ 1)
  · rw [if_pos c, if_pos c, la.mom hn h.1.2.2.2.2 (x := x) (by omega), la.wsum hn h.1.2.2.2.2]
    have hb := mbelow_in hk
    have ha := mabove_in hk la.1 (x := x) (by omega)
    by_cases z : mbelow M = 0
    · rw [if_pos z]
      -- without weights nothing stands above either
      have w0 : mabove M x = 0 := by
        have e : mabove M x = isum (fun _ => 0) 0 (M 0 1 - 0).toNat := by
          unfold mabove
          refine isum_congr _ 0 (fun j j1 j2 => ?_)
          show bb (0 < M 5 j) * (M 3 j * (M 6 (j * 3 + x) + men M (j * 3 + x))) = 0
          by_cases c5 : 0 < M 5 j
          · have hw : M 3 j = 0 := by
              have w3 := hk.2.2.2.2.2.2 j (by omega) (by omega)
              -- the sum is zero, so is each part
              have hs := isum_part (f := fun b => bb (0 < M 5 b) * (2 * M 3 b)) (n := (M 0 1 - 0).toNat) (i := 0) (fun q q1 q2 => by
                have w4 := hk.2.2.2.2.2.2 q (by omega) (by omega)
                have := mul_in (y := 2 * M 3 q) (B := 2000) (bb_in (0 < M 5 q)) (by omega)
                exact this.1) j j1 j2
              have hz : isum (fun b => bb (0 < M 5 b) * (2 * M 3 b)) 0 (M 0 1 - 0).toNat = 0 := z
              rw [hz] at hs
              try dsimp only at hs
              rw [bb_t c5] at hs
              omega
            rw [hw, Int.zero_mul, Int.mul_zero]
          · rw [bb_mul_f c5]
        rw [e]
        have := isum_in (f := fun _ : Int => (0 : Int)) (B := 0) (M 0 1 - 0).toNat 0 (fun _ _ _ => ⟨Int.le_refl _, Int.le_refl _⟩)
        omega
      rw [z, w0, zgcd_0 (Int.le_refl 0), if_pos rfl]
    · have hp := zgcd_pos (x := mabove M x) (y := mbelow M) (by omega)
      rw [if_neg z, if_neg (by omega)]
  · rw [if_neg c, if_neg c]
end Rm
