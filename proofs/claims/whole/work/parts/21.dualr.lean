/-- all cells but these are as they were -/
def keeps (ks : List Nat) (S0 S : jMem) : Prop := ∀ k, k ∉ ks → S k = S0 k
theorem keeps.rf {ks : List Nat} {S : jMem} : keeps ks S S := fun _ _ => rfl
theorem keeps.up {ks : List Nat} {S0 S : jMem} (h : keeps ks S0 S) {q : Nat} (hq : q ∈ ks) (a v : Int) : keeps ks S0 (up2 S q a v) := fun k hk => by
  have hne : k ≠ q := fun e => hk (e ▸ hq)
  rw [up2_k S a v hne]; exact h k hk
theorem keeps.on {ks : List Nat} {S0 S S1 : jMem} (h : keeps ks S0 S) {q : Nat} (hq : q ∈ ks) (h2 : only q S S1) : keeps ks S0 S1 := fun k hk => (h2 k (fun e => hk (e ▸ hq))).trans (h k hk)
theorem keeps.tr {ks : List Nat} {S0 S S1 : jMem} (h : keeps ks S0 S) (h2 : keeps ks S S1) : keeps ks S0 S1 := fun k hk => (h2 k hk).trans (h k hk)
theorem keeps.wide {ks ks' : List Nat} {S0 S : jMem} (h : keeps ks S0 S) (h2 : ∀ k ∈ ks, k ∈ ks') : keeps ks' S0 S := fun k hk => h k (fun hq => hk (h2 k hq))
theorem keeps.ok {ks : List Nat} {S0 S : jMem} (h : keeps ks S0 S) (hq : 1 ∉ ks ∧ 2 ∉ ks ∧ 3 ∉ ks ∧ 4 ∉ ks ∧ 5 ∉ ks) (hk : cOK S0) : cOK S := cOK.eq (h 1 hq.1) (h 2 hq.2.1) (h 3 hq.2.2.1) (h 4 hq.2.2.2.1) (h 5 hq.2.2.2.2) hk
/-- row i of f are the extents of a box in a turn -/
def rowIs (f sid : Int → Int) (i b t : Int) : Prop := f (i * 3 + 0) = pext sid b t 0 ∧ f (i * 3 + 1) = pext sid b t 1 ∧ f (i * 3 + 2) = pext sid b t 2
/-- rows lo .. hi - 1 are those of the box's turns that count, of turns below u -/
def tOK (len sid tb f : Int → Int) (b lo hi u : Int) : Prop := (∀ i, lo ≤ i → i < hi → ∃ t, (0 ≤ t ∧ t < u) ∧ pcounts len sid tb b t ∧ rowIs f sid i b t) ∧ (∀ t, 0 ≤ t → t < u → pcounts len sid tb b t → ∃ i, (lo ≤ i ∧ i < hi) ∧ rowIs f sid i b t)
theorem tOK.skip {len sid tb f : Int → Int} {b lo hi u : Int} (h : tOK len sid tb f b lo hi u) (hn : ¬ pcounts len sid tb b u) : tOK len sid tb f b lo hi (u + 1) := by
  refine ⟨fun i h1 h2 => ?_, fun t h1 h2 hc => ?_⟩
  · obtain ⟨t, a1, a2⟩ := h.1 i h1 h2
    exact ⟨t, by omega, a2⟩
  · by_cases e : t = u
    · subst e; exact absurd hc hn
    · exact h.2 t h1 (by omega) hc
theorem tOK.add {len sid tb f g : Int → Int} {b lo hi u : Int} (h : tOK len sid tb f b lo hi u) (hl : lo ≤ hi) (hu : 0 ≤ u) (hc : pcounts len sid tb b u) (hg : ∀ i, i < hi * 3 → g i = f i) (hr : rowIs g sid hi b u) : tOK len sid tb g b lo (hi + 1) (u + 1) := by
  have keep : ∀ i t, i < hi → rowIs f sid i b t → rowIs g sid i b t := fun i t hi' hq => ⟨by rw [hg _ (by omega)]; exact hq.1, by rw [hg _ (by omega)]; exact hq.2.1, by rw [hg _ (by omega)]; exact hq.2.2⟩
  refine ⟨fun i h1 h2 => ?_, fun t h1 h2 hc2 => ?_⟩
  · by_cases e : i = hi
    · subst e; exact ⟨u, by omega, hc, hr⟩
    · obtain ⟨t, a1, a2, a3⟩ := h.1 i h1 (by omega)
      exact ⟨t, by omega, a2, keep i t (by omega) a3⟩
  · by_cases e : t = u
    · subst e; exact ⟨hi, by omega, hr⟩
    · obtain ⟨i, a1, a2⟩ := h.2 t h1 (by omega) hc2
      exact ⟨i, by omega, keep i t (by omega) a2⟩
theorem tOK.same {len sid tb f g : Int → Int} {b lo hi u : Int} (h : tOK len sid tb f b lo hi u) (hg : ∀ i, i < hi * 3 → g i = f i) : tOK len sid tb g b lo hi u := by
  have keep : ∀ i t, i < hi → rowIs f sid i b t → rowIs g sid i b t := fun i t hi' hq => ⟨by rw [hg _ (by omega)]; exact hq.1, by rw [hg _ (by omega)]; exact hq.2.1, by rw [hg _ (by omega)]; exact hq.2.2⟩
  refine ⟨fun i h1 h2 => ?_, fun t h1 h2 hc2 => ?_⟩
  · obtain ⟨t, a1, a2, a3⟩ := h.1 i h1 h2
    exact ⟨t, a1, a2, keep i t h2 a3⟩
  · obtain ⟨i, a1, a2⟩ := h.2 t h1 h2 hc2
    exact ⟨i, a1, keep i t a1.2 a2⟩
/-- what tellTurns has told of box b, up to turn u -/
def ttI (S0 : jMem) (b lo hi u : Int) (S : jMem) : Prop := only 28 S0 S ∧ (∀ i, i < lo * 3 → S 28 i = S0 28 i) ∧ tOK (S0 2) (S0 3) (S0 4) (S 28) b lo hi u ∧ lo ≤ hi ∧ hi ≤ lo + u ∧ (0 ≤ u ∧ u ≤ 6)
theorem ttI.skip {S0 S : jMem} {b lo hi u : Int} (h : ttI S0 b lo hi u S) (hu : u < 6) (hn : ¬ pcounts (S0 2) (S0 3) (S0 4) b u) : ttI S0 b lo hi (u + 1) S := ⟨h.1, h.2.1, h.2.2.1.skip hn, h.2.2.2.1, by have := h.2.2.2.2.1; omega, by have := h.2.2.2.2.2; omega⟩
theorem ttI.add {S0 S : jMem} {b lo hi u : Int} (h : ttI S0 b lo hi u S) (hu : u < 6) (hc : pcounts (S0 2) (S0 3) (S0 4) b u) : ttI S0 b lo (hi + 1) (u + 1) (up2 (up2 (up2 S 28 (hi * 3 + 0) (pext (S0 3) b u 0)) 28 (hi * 3 + 1) (pext (S0 3) b u 1)) 28 (hi * 3 + 2) (pext (S0 3) b u 2)) := by
  obtain ⟨h1, h2, h3, h4, h5, h6⟩ := h
  have hg : ∀ i, i < hi * 3 → up2 (up2 (up2 S 28 (hi * 3 + 0) (pext (S0 3) b u 0)) 28 (hi * 3 + 1) (pext (S0 3) b u 1)) 28 (hi * 3 + 2) (pext (S0 3) b u 2) 28 i = S 28 i := fun i hi' => by rw [up2_a _ _ _ (by omega), up2_a _ _ _ (by omega), up2_a _ _ _ (by omega)]
  refine ⟨((h1.up _ _).up _ _).up _ _, fun i hi' => by rw [hg i (by omega)]; exact h2 i hi', h3.add h4 h6.1 hc hg ⟨rd_a (by omega) (rd_a (by omega) (rd_e rfl)), rd_a (by omega) (rd_e rfl), rd_e rfl⟩, by omega, by omega, by omega⟩
/-- the caches of the dual functions are right -/
def dOK (S : jMem) : Prop := (vOK S 0 ∧ vOK S 1 ∧ vOK S 2) ∧ (∀ b, 0 ≤ b → b ≤ S 1 4 → 0 ≤ S 29 b ∧ S 29 b ≤ b * 6) ∧ ∀ b, 0 ≤ b → b < S 1 4 → S 29 b ≤ S 29 (b + 1) ∧ tOK (S 2) (S 3) (S 4) (S 28) b (S 29 b) (S 29 (b + 1)) 6
/-- what prepare has told, boxes below b -/
def ppI (S0 : jMem) (b tt : Int) (S : jMem) : Prop := keeps [25, 27, 28, 29] S0 S ∧ (∀ j, S 25 j = if j = 8 then 1 else S0 25 j) ∧ (vOK S 0 ∧ vOK S 1 ∧ vOK S 2) ∧ (0 ≤ tt ∧ tt ≤ b * 6) ∧ (∀ c, 0 ≤ c → c < b → (0 ≤ S 29 c ∧ S 29 c ≤ c * 6) ∧ S 29 c ≤ (if c + 1 = b then tt else S 29 (c + 1)) ∧ tOK (S 2) (S 3) (S 4) (S 28) c (S 29 c) (if c + 1 = b then tt else S 29 (c + 1)) 6 ∧ (if c + 1 = b then tt else S 29 (c + 1)) ≤ tt)
theorem vOK_on {S0 S : jMem} {q : Nat} {a : Int} (h : vOK S0 a) (ho : only q S0 S) (h1 : q ≠ 2) (h2 : q ≠ 27) : vOK S a := fun n x a1 a2 a3 a4 => by
  rw [ho 2 (Ne.symm h1)] at a2 a4 ⊢; rw [ho 27 (Ne.symm h2)]; exact h n x a1 a2 a3 a4
theorem ppI.step {S0 S S2 : jMem} {b tt v : Int} (h : ppI S0 b tt S) (hb : 0 ≤ b) (h2 : ttI (up2 S 29 b tt) b tt v 6 S2) : ppI S0 (b + 1) v S2 := by
  obtain ⟨k1, k2, k3, k4, k5⟩ := h
  obtain ⟨t1, t2, t3, t4, t5, -⟩ := h2
  have e2 : S2 2 = S 2 := (t1 2 (by decide)).trans (up2_k _ _ _ (by decide))
  have e3 : S2 3 = S 3 := (t1 3 (by decide)).trans (up2_k _ _ _ (by decide))
  have e4 : S2 4 = S 4 := (t1 4 (by decide)).trans (up2_k _ _ _ (by decide))
  have e29 : S2 29 = up2 S 29 b tt 29 := t1 29 (by decide)
  have v1 : ∀ a, vOK S a → vOK S2 a := fun a hv => vOK_on (vOK_on hv (S := up2 S 29 b tt) (q := 29) (only.rf.up _ _) (by decide) (by decide)) t1 (by decide) (by decide)
  refine ⟨(k1.up (by decide) b tt).on (by decide) t1, fun j => ?_, ⟨v1 0 k3.1, v1 1 k3.2.1, v1 2 k3.2.2⟩, by omega, fun c c1 c2 => ?_⟩
  · rw [t1 25 (by decide), up2_k _ _ _ (by decide)]; exact k2 j
  · rw [e2, e3, e4]
    by_cases hc : c = b
    · subst hc
      rw [if_pos rfl, e29, up2_eq]
      refine ⟨by omega, by omega, ?_, by omega⟩
      rw [up2_k S _ _ (by decide), up2_k S _ _ (by decide), up2_k S _ _ (by decide)] at t3
      exact t3
    · obtain ⟨q1, q2, q3, q4⟩ := k5 c c1 (by omega)
      rw [if_neg (by omega), e29, up2_a _ _ _ hc]
      have hx : up2 S 29 b tt 29 (c + 1) = if c + 1 = b then tt else S 29 (c + 1) := by
        by_cases hd : c + 1 = b
        · rw [if_pos hd, hd, up2_eq]
        · rw [if_neg hd, up2_a _ _ _ hd]
      rw [hx]
      refine ⟨q1, q2, q3.same (fun i hi => ?_), by omega⟩
      rw [t2 i (by omega), up2_k _ _ _ (by decide)]
theorem ppI.done {S0 S : jMem} {tt : Int} (h : ppI S0 (S0 1 4) tt S) (hn : 0 ≤ S0 1 4) : dOK (up2 S 29 (S0 1 4) tt) := by
  obtain ⟨k1, k2, k3, k4, k5⟩ := h
  have e1 : up2 S 29 (S0 1 4) tt 1 4 = S0 1 4 := by rw [up2_k _ _ _ (by decide), k1 1 (by decide)]
  have v1 : ∀ a, vOK S a → vOK (up2 S 29 (S0 1 4) tt) a := fun a hv => vOK_on hv (q := 29) (only.rf.up _ _) (by decide) (by decide)
  refine ⟨⟨v1 0 k3.1, v1 1 k3.2.1, v1 2 k3.2.2⟩, fun b b1 b2 => ?_, fun b b1 b2 => ?_⟩
  · rw [e1] at b2
    by_cases hb : b = S0 1 4
    · subst hb; rw [up2_eq]; omega
    · rw [up2_a _ _ _ hb]; exact (k5 b b1 (by omega)).1
  · rw [e1] at b2
    obtain ⟨q1, q2, q3, q4⟩ := k5 b b1 b2
    have hx : up2 S 29 (S0 1 4) tt 29 (b + 1) = if b + 1 = S0 1 4 then tt else S 29 (b + 1) := by
      by_cases hd : b + 1 = S0 1 4
      · rw [if_pos hd, hd, up2_eq]
      · rw [if_neg hd, up2_a _ _ _ hd]
    rw [hx, up2_a _ _ _ (by omega : b ≠ S0 1 4), up2_k S _ _ (by decide), up2_k S _ _ (by decide), up2_k S _ _ (by decide), up2_k S _ _ (by decide)]
    exact ⟨q2, q3⟩
