/-! the model's search: what a step makes of its memory -/
def apAt (S : jMem) (b k : Int) : Prop := papart (S 2) b (S 9 b) (S 10 (3 * b)) (S 10 (3 * b + 1)) (S 10 (3 * b + 2)) k (S 9 k) (S 10 (3 * k)) (S 10 (3 * k + 1)) (S 10 (3 * k + 2))
def allAp (S : jMem) (b d : Int) : Prop := ∀ d', 0 ≤ d' → d' < d → apAt S b (S 7 d')
theorem allAp_0 {S : jMem} {b : Int} : allAp S b 0 := fun d' h1 h2 => by omega
theorem allAp_t {S : jMem} {b d : Int} (h : allAp S b d) (h2 : apAt S b (S 7 d)) : allAp S b (d + 1) := fun d' a1 a2 => by
  by_cases e : d' = d
  · subst e; exact h2
  · exact h d' a1 (by omega)
theorem allAp_f {S : jMem} {b d e : Int} (hd : 0 ≤ d) (he : d < e) (h2 : ¬ apAt S b (S 7 d)) : ¬ allAp S b e := fun h => h2 (h d hd he)
theorem allAp_le {S : jMem} {b d e : Int} (h : ¬ allAp S b d) (he : d ≤ e) : ¬ allAp S b e := fun g => h (fun d' a1 a2 => g d' a1 (by omega))
def plOK (S : jMem) (c : Int) : Prop := (0 ≤ S 9 c ∧ S 9 c < 6) ∧ (0 ≤ S 10 (3 * c) ∧ S 10 (3 * c) ≤ 20) ∧ (0 ≤ S 10 (3 * c + 1) ∧ S 10 (3 * c + 1) ≤ 20) ∧ (0 ≤ S 10 (3 * c + 2) ∧ S 10 (3 * c + 2) ≤ 20)
theorem isWay.pl {S : jMem} (hk : mOK S) {c w : Int} (hc : 0 ≤ c ∧ c < 8) (h : isWay (S 0 1) (S 1) (S 2) (S 4) c w (S 9 c) (S 10 (3 * c)) (S 10 (3 * c + 1)) (S 10 (3 * c + 2))) : plOK S c := by
  obtain ⟨-, h0, h1, h2⟩ := isWay.in hk hc h
  have l0 := hk.2.1 0 (by omega) (by omega)
  have l1 := hk.2.1 1 (by omega) (by omega)
  have l2 := hk.2.1 2 (by omega) (by omega)
  have x0 := pext_in hk (b := c) (t := S 9 c) (a := 0) hc.1 hc.2
  have x1 := pext_in hk (b := c) (t := S 9 c) (a := 1) hc.1 hc.2
  have x2 := pext_in hk (b := c) (t := S 9 c) (a := 2) hc.1 hc.2
  exact ⟨h.1, by omega, by omega, by omega⟩
theorem ways_sum {S : jMem} (hs : mS S) {b : Int} (hb : 0 ≤ b ∧ b < S 0 1) : 0 + S 13 (6 * b + 0) + S 13 (6 * b + 1) + S 13 (6 * b + 2) + S 13 (6 * b + 3) + S 13 (6 * b + 4) + S 13 (6 * b + 5) = wsum (S 0 1) (S 1) (S 2) (S 4) b 6 := by
  rw [wsum_6]
  have h := hs.2.2.2
  rw [h b 0 hb.1 (by omega) (by omega) (by omega), h b 1 hb.1 (by omega) (by omega) (by omega), h b 2 hb.1 (by omega) (by omega) (by omega), h b 3 hb.1 (by omega) (by omega) (by omega), h b 4 hb.1 (by omega) (by omega) (by omega), h b 5 hb.1 (by omega) (by omega) (by omega)]
theorem ord_in {S : jMem} (hk : mOK S) (hs : mS S) {d : Int} (hd : 0 ≤ d ∧ d < S 0 1) : 0 ≤ S 7 d ∧ S 7 d < S 0 1 := by
  have hn := hk.1
  have := isOrd.in _ hs.1 d hd.1 (by omega)
  omega
/-- the memory after a way has been gone -/
def stM (S : jMem) (t x y z : Int) : jMem := goM (up2 (up2 S 0 9 (S 0 9 + 1)) 8 (S 0 8) (S 8 (S 0 8) + 1)) (S 7 (S 0 8)) t x y z
section St
variable {S : jMem} {t x y z : Int}
theorem stM.k {q : Nat} (h : q ≠ 0 ∧ q ≠ 8 ∧ q ≠ 9 ∧ q ≠ 10) : stM S t x y z q = S q := by
  unfold stM goM
  rw [up2_k _ _ _ (by omega), up2_k _ _ _ (by omega), up2_k _ _ _ (by omega), up2_k _ _ _ (by omega), up2_k _ _ _ (by omega), up2_k _ _ _ (by omega)]
theorem stM.c0 : stM S t x y z 0 = fset (S 0) 9 (S 0 9 + 1) := by
  unfold stM goM
  rw [up2_k _ _ _ (by decide), up2_k _ _ _ (by decide), up2_k _ _ _ (by decide), up2_k _ _ _ (by decide), up2_k _ _ _ (by decide), up2_s]
theorem stM.c8 : stM S t x y z 8 = fset (S 8) (S 0 8) (S 8 (S 0 8) + 1) := by
  unfold stM goM
  rw [up2_k _ _ _ (by decide), up2_k _ _ _ (by decide), up2_k _ _ _ (by decide), up2_k _ _ _ (by decide), up2_s, up2_k _ _ _ (by decide)]
theorem stM.c9 : stM S t x y z 9 = fset (S 9) (S 7 (S 0 8)) t := by
  unfold stM goM
  rw [up2_k _ _ _ (by decide), up2_k _ _ _ (by decide), up2_k _ _ _ (by decide), up2_s, up2_k _ _ _ (by decide), up2_k _ _ _ (by decide)]
theorem stM.c10 : stM S t x y z 10 = fset (fset (fset (S 10) (3 * S 7 (S 0 8)) x) (3 * S 7 (S 0 8) + 1) y) (3 * S 7 (S 0 8) + 2) z := by
  unfold stM goM
  rw [up2_s, up2_s, up2_s, up2_k _ _ _ (by decide), up2_k _ _ _ (by decide), up2_k _ _ _ (by decide)]
theorem stM.own : stM S t x y z 9 (S 7 (S 0 8)) = t ∧ stM S t x y z 10 (3 * S 7 (S 0 8)) = x ∧ stM S t x y z 10 (3 * S 7 (S 0 8) + 1) = y ∧ stM S t x y z 10 (3 * S 7 (S 0 8) + 2) = z := by
  rw [stM.c9, stM.c10]
  refine ⟨fset_e _ _ _, ?_, ?_, fset_e _ _ _⟩
  · rw [fset_n _ _ (by omega), fset_n _ _ (by omega), fset_e]
  · rw [fset_n _ _ (by omega), fset_e]
theorem stM.oth {c : Int} (h : c ≠ S 7 (S 0 8)) : stM S t x y z 9 c = S 9 c ∧ stM S t x y z 10 (3 * c) = S 10 (3 * c) ∧ stM S t x y z 10 (3 * c + 1) = S 10 (3 * c + 1) ∧ stM S t x y z 10 (3 * c + 2) = S 10 (3 * c + 2) := by
  rw [stM.c9, stM.c10]
  refine ⟨fset_n _ _ h, ?_, ?_, ?_⟩
  all_goals rw [fset_n _ _ (by omega), fset_n _ _ (by omega), fset_n _ _ (by omega)]
end St
/-- what stays along the search -/
def runI (S0 : jMem) (s0 : sst) (l : Int) (S : jMem) : Prop := keeps [0, 8, 9, 10] S0 S ∧ (∀ j, j ≠ 7 → j ≠ 8 → j ≠ 9 → S 0 j = S0 0 j) ∧ mrel S (S 0 7, S 0 8, S 0 9, l, S 8) ∧ ∀ X, sEnd (sstep (S0 0 1) (S0 1) (S0 2) (S0 4) (S0 7)) (S 0 7, S 0 8, S 0 9, l, S 8) X → sEnd (sstep (S0 0 1) (S0 1) (S0 2) (S0 4) (S0 7)) s0 X
theorem runI.cells {S0 S : jMem} {s0 : sst} {l : Int} (h : runI S0 s0 l S) : S 0 1 = S0 0 1 ∧ S 1 = S0 1 ∧ S 2 = S0 2 ∧ S 3 = S0 3 ∧ S 4 = S0 4 ∧ S 7 = S0 7 ∧ S 11 = S0 11 ∧ S 12 = S0 12 ∧ S 13 = S0 13 := ⟨h.2.1 1 (by decide) (by decide) (by decide), h.1 1 (by decide), h.1 2 (by decide), h.1 3 (by decide), h.1 4 (by decide), h.1 7 (by decide), h.1 11 (by decide), h.1 12 (by decide), h.1 13 (by decide)⟩
theorem runI.ok {S0 S : jMem} {s0 : sst} {l : Int} (h : runI S0 s0 l S) (hk : mOK S0) : mOK S := by
  obtain ⟨a0, a1, a2, a3, a4, -⟩ := h.cells
  exact hk.eq a0 a1 a2 a3 a4
theorem runI.ms {S0 S : jMem} {s0 : sst} {l : Int} (h : runI S0 s0 l S) (hs : mS S0) : mS S := by
  obtain ⟨a0, a1, a2, a3, a4, a7, b1, b2, b3⟩ := h.cells
  exact hs.eq a0 a1 a2 a4 a7 b1 b2 b3
theorem runI.back {S0 S : jMem} {s0 : sst} {l st : Int} (h : runI S0 s0 l S) (h7 : S 0 7 = 0) (he : S 8 (S 0 8) = wsum (S 0 1) (S 1) (S 2) (S 4) (S 7 (S 0 8)) 6) (hst : (S 0 8 - 1 < 0 ∧ st = 2) ∨ (0 ≤ S 0 8 - 1 ∧ st = 0)) : runI S0 s0 l (up2 (up2 S 0 8 (S 0 8 - 1)) 0 7 st) := by
  obtain ⟨a0, a1, a2, a3, a4, a7, -⟩ := h.cells
  obtain ⟨k1, k2, ⟨r1, r2, r3, r4, r5, r6⟩, k4⟩ := h
  have c7 : up2 (up2 S 0 8 (S 0 8 - 1)) 0 7 st 0 7 = st := up2_eq _ _ _ _
  have c8 : up2 (up2 S 0 8 (S 0 8 - 1)) 0 7 st 0 8 = S 0 8 - 1 := by rw [up2_a _ _ _ (by decide), up2_eq]
  have co : ∀ j, j ≠ 7 → j ≠ 8 → up2 (up2 S 0 8 (S 0 8 - 1)) 0 7 st 0 j = S 0 j := fun j j1 j2 => by rw [up2_a _ _ _ j1, up2_a _ _ _ j2]
  have cn : up2 (up2 S 0 8 (S 0 8 - 1)) 0 7 st 8 = S 8 := rfl
  have hst2 : st = if S 0 8 - 1 < 0 then 2 else 0 := by
    rcases hst with ⟨p, q⟩ | ⟨p, q⟩
    · rw [if_pos p, q]
    · rw [if_neg (by omega), q]
  have hd := r3 h7
  dsimp only at r3 r5 r6 hd
  refine ⟨(k1.up (by decide) _ _).up (by decide) _ _, fun j j1 j2 j3 => by rw [co j j1 j2]; exact k2 j j1 j2 j3, ?_, ?_⟩
  · rw [c7, c8, co 9 (by decide) (by decide), cn]
    refine ⟨⟨c7, c8, co 9 (by decide) (by decide), cn⟩, by dsimp only; omega, ?_, ?_, fun d' d1 d2 => ?_, fun d d1 d2 d3 => ?_⟩
    · dsimp only; rw [co 1 (by decide) (by decide)]; omega
    · dsimp only; rw [co 1 (by decide) (by decide)]; omega
    · dsimp only at d2; exact r5 d' d1 (by omega)
    · dsimp only at d3
      rw [co 1 (by decide) (by decide)] at d2
      exact r6 d d1 d2 (by omega)
  · rw [c7, c8, co 9 (by decide) (by decide), cn]
    intro X hX
    refine k4 X (sEnd.step ?_ hX)
    rw [h7, sstep_back (by rw [← a0, ← a1, ← a2, ← a4, ← a7]; exact he), hst2]
theorem stM.plan {S : jMem} {t x y z : Int} (hk : mOK S) (hs : mS S) (hd : 0 ≤ S 0 8 ∧ S 0 8 < S 0 1) (hp : mplan S (S 8) (S 0 8)) (hW : isWay (S 0 1) (S 1) (S 2) (S 4) (S 7 (S 0 8)) (S 8 (S 0 8)) t x y z) {nx : Int → Int} (hnx : ∀ d, d ≤ S 0 8 → nx d = fset (S 8) (S 0 8) (S 8 (S 0 8) + 1) d) : mplan (stM S t x y z) nx (S 0 8 + 1) := by
  intro d' d1 d2
  have hn := hk.1
  rw [stM.k (q := 1) (by decide), stM.k (q := 2) (by decide), stM.k (q := 4) (by decide), stM.k (q := 7) (by decide), stM.c0, fset_n _ _ (by decide)]
  by_cases e : d' = S 0 8
  · subst e
    obtain ⟨o1, o2, o3, o4⟩ := stM.own (S := S) (t := t) (x := x) (y := y) (z := z)
    rw [o1, o2, o3, o4, hnx _ (by omega), fset_e, show S 8 (S 0 8) + 1 - 1 = S 8 (S 0 8) by omega]
    exact hW
  · have hne : S 7 d' ≠ S 7 (S 0 8) := fun q => e (isOrd.inj _ hs.1 d' (S 0 8) d1 (by omega) (by omega) (by omega) q)
    obtain ⟨o1, o2, o3, o4⟩ := stM.oth (S := S) (t := t) (x := x) (y := y) (z := z) hne
    rw [o1, o2, o3, o4, hnx _ (by omega), fset_n _ _ e]
    exact hp d' d1 (by omega)
theorem stM.good {S : jMem} {t x y z : Int} (hk : mOK S) (hs : mS S) (hd : 0 ≤ S 0 8 ∧ S 0 8 < S 0 1) (hp : mplan S (S 8) (S 0 8)) (hW : isWay (S 0 1) (S 1) (S 2) (S 4) (S 7 (S 0 8)) (S 8 (S 0 8)) t x y z) : allAp (stM S t x y z) (S 7 (S 0 8)) (S 0 8) ↔ pgood (S 0 1) (S 1) (S 2) (S 4) (S 7) (S 8) (S 0 8) := by
  have hn := hk.1
  obtain ⟨o1, o2, o3, o4⟩ := stM.own (S := S) (t := t) (x := x) (y := y) (z := z)
  have hb := ord_in hk hs hd
  constructor
  · intro h d' d1 d2 t1 x1 y1 z1 t2 x2 y2 z2 w1 w2
    obtain ⟨rfl, rfl, rfl, rfl⟩ := isWay.uniq hk (by omega) hW w1
    have hb2 := ord_in hk hs (d := d') (by omega)
    obtain ⟨e1, e2, e3, e4⟩ := isWay.uniq hk (by omega) (hp d' d1 d2) w2
    have hne : S 7 d' ≠ S 7 (S 0 8) := fun q => by have := isOrd.inj _ hs.1 d' (S 0 8) d1 (by omega) (by omega) (by omega) q; omega
    obtain ⟨p1, p2, p3, p4⟩ := stM.oth (S := S) (t := t) (x := x) (y := y) (z := z) hne
    have := h d' d1 d2
    unfold apAt at this
    rw [stM.k (q := 2) (by decide), stM.k (q := 7) (by decide), o1, o2, o3, o4, p1, p2, p3, p4, e1, e2, e3, e4] at this
    exact this
  · intro h d' d1 d2
    have hne : S 7 d' ≠ S 7 (S 0 8) := fun q => by have := isOrd.inj _ hs.1 d' (S 0 8) d1 (by omega) (by omega) (by omega) q; omega
    obtain ⟨p1, p2, p3, p4⟩ := stM.oth (S := S) (t := t) (x := x) (y := y) (z := z) hne
    unfold apAt
    rw [stM.k (q := 2) (by decide), stM.k (q := 7) (by decide), o1, o2, o3, o4, p1, p2, p3, p4]
    exact h d' d1 d2 _ _ _ _ _ _ _ _ hW (hp d' d1 d2)
theorem runI.pre {S0 S : jMem} {s0 : sst} {l : Int} (h : runI S0 s0 l S) (h7 : S 0 7 = 0) : (0 ≤ S 0 8 ∧ S 0 8 < S 0 1) ∧ mplan S (S 8) (S 0 8) ∧ (0 ≤ S 8 (S 0 8) ∧ S 8 (S 0 8) ≤ wsum (S 0 1) (S 1) (S 2) (S 4) (S 7 (S 0 8)) 6) := by
  obtain ⟨-, -, ⟨-, -, r3, -, r5, r6⟩, -⟩ := h
  have hd := r3 h7
  exact ⟨hd, r5, r6 (S 0 8) hd.1 hd.2 (Int.le_refl _)⟩
theorem runI.no {S0 S : jMem} {s0 : sst} {l t x y z : Int} (h : runI S0 s0 l S) (hk : mOK S0) (hs : mS S0) (h7 : S 0 7 = 0) (hl : l ≠ 0) (he : S 8 (S 0 8) ≠ wsum (S 0 1) (S 1) (S 2) (S 4) (S 7 (S 0 8)) 6) (hW : isWay (S 0 1) (S 1) (S 2) (S 4) (S 7 (S 0 8)) (S 8 (S 0 8)) t x y z) (hg : ¬ allAp (stM S t x y z) (S 7 (S 0 8)) (S 0 8)) : runI S0 s0 (l - 1) (stM S t x y z) := by
  have hk1 := h.ok hk
  have hs1 := h.ms hs
  obtain ⟨hd, hp, hb⟩ := h.pre h7
  obtain ⟨a0, a1, a2, a3, a4, a7, -⟩ := h.cells
  have hpl := stM.plan hk1 hs1 hd hp hW (nx := fset (S 8) (S 0 8) (S 8 (S 0 8) + 1)) (fun _ _ => rfl)
  rw [stM.good hk1 hs1 hd hp hW] at hg
  obtain ⟨k1, k2, ⟨r1, r2, r3, r4, r5, r6⟩, k4⟩ := h
  have e7 : stM S t x y z 0 7 = 0 := by rw [stM.c0, fset_n _ _ (by decide), h7]
  have e8 : stM S t x y z 0 8 = S 0 8 := by rw [stM.c0, fset_n _ _ (by decide)]
  have e9 : stM S t x y z 0 9 = S 0 9 + 1 := by rw [stM.c0, fset_e]
  have e1 : stM S t x y z 0 1 = S 0 1 := by rw [stM.c0, fset_n _ _ (by decide)]
  refine ⟨fun q hq => ?_, fun j j1 j2 j3 => by rw [stM.c0, fset_n _ _ j3]; exact k2 j j1 j2 j3, ?_, ?_⟩
  · rw [stM.k ⟨fun e => hq (by rw [e]; decide), fun e => hq (by rw [e]; decide), fun e => hq (by rw [e]; decide), fun e => hq (by rw [e]; decide)⟩]; exact k1 q hq
  · rw [e7, e8, e9, stM.c8]
    refine ⟨⟨e7, e8, e9, stM.c8⟩, Or.inl rfl, fun _ => by rw [e1]; exact hd, fun q => by dsimp only at q; omega, fun d' d1 d2 => hpl d' d1 (by dsimp only at d2; omega), fun d d1 d2 d3 => ?_⟩
    rw [e1] at d2
    dsimp only at d3
    dsimp only
    rw [e1, stM.k (q := 1) (by decide), stM.k (q := 2) (by decide), stM.k (q := 4) (by decide), stM.k (q := 7) (by decide)]
    by_cases e : d = S 0 8
    · subst e; rw [fset_e]; omega
    · rw [fset_n _ _ e]; exact r6 d d1 d2 d3
  · rw [e7, e8, e9, stM.c8]
    intro X hX
    refine k4 X (sEnd.step ?_ hX)
    rw [a0, a1, a2, a4, a7] at he hg
    rw [h7, sstep_no he hl hg]
theorem runI.go {S0 S : jMem} {s0 : sst} {l t x y z : Int} (h : runI S0 s0 l S) (hk : mOK S0) (hs : mS S0) (h7 : S 0 7 = 0) (hl : l ≠ 0) (he : S 8 (S 0 8) ≠ wsum (S 0 1) (S 1) (S 2) (S 4) (S 7 (S 0 8)) 6) (hW : isWay (S 0 1) (S 1) (S 2) (S 4) (S 7 (S 0 8)) (S 8 (S 0 8)) t x y z) (hg : allAp (stM S t x y z) (S 7 (S 0 8)) (S 0 8)) (hd1 : S 0 8 + 1 < S 0 1) : runI S0 s0 (l - 1) (up2 (up2 (up2 (stM S t x y z) 0 8 (S 0 8 + 1)) 0 7 0) 8 (S 0 8 + 1) 0) := by
  have hk1 := h.ok hk
  have hs1 := h.ms hs
  obtain ⟨hd, hp, hb⟩ := h.pre h7
  obtain ⟨a0, a1, a2, a3, a4, a7, -⟩ := h.cells
  have hpl := stM.plan hk1 hs1 hd hp hW (nx := fset (fset (S 8) (S 0 8) (S 8 (S 0 8) + 1)) (S 0 8 + 1) 0) (fun d q => by rw [fset_n _ _ (by omega)])
  rw [stM.good hk1 hs1 hd hp hW] at hg
  obtain ⟨k1, k2, ⟨r1, r2, r3, r4, r5, r6⟩, k4⟩ := h
  generalize hT : stM S t x y z = T at *
  have f1 : T 0 1 = S 0 1 := by rw [← hT, stM.c0, fset_n _ _ (by decide)]
  have f9 : T 0 9 = S 0 9 + 1 := by rw [← hT, stM.c0, fset_e]
  have f8 : T 8 = fset (S 8) (S 0 8) (S 8 (S 0 8) + 1) := by rw [← hT, stM.c8]
  have e7 : up2 (up2 (up2 T 0 8 (S 0 8 + 1)) 0 7 0) 8 (S 0 8 + 1) 0 0 7 = 0 := by rw [up2_k _ _ _ (by decide), up2_eq]
  have e8 : up2 (up2 (up2 T 0 8 (S 0 8 + 1)) 0 7 0) 8 (S 0 8 + 1) 0 0 8 = S 0 8 + 1 := by rw [up2_k _ _ _ (by decide), up2_a _ _ _ (by decide), up2_eq]
  have eo : ∀ j, j ≠ 7 → j ≠ 8 → up2 (up2 (up2 T 0 8 (S 0 8 + 1)) 0 7 0) 8 (S 0 8 + 1) 0 0 j = T 0 j := fun j j1 j2 => by rw [up2_k _ _ _ (by decide), up2_a _ _ _ j1, up2_a _ _ _ j2]
  have en : up2 (up2 (up2 T 0 8 (S 0 8 + 1)) 0 7 0) 8 (S 0 8 + 1) 0 8 = fset (fset (S 8) (S 0 8) (S 8 (S 0 8) + 1)) (S 0 8 + 1) 0 := by rw [up2_s, up2_k _ _ _ (by decide), up2_k _ _ _ (by decide), f8]
  have ek : ∀ q : Nat, q ≠ 0 → q ≠ 8 → up2 (up2 (up2 T 0 8 (S 0 8 + 1)) 0 7 0) 8 (S 0 8 + 1) 0 q = T q := fun q q1 q2 => by rw [up2_k _ _ _ q2, up2_k _ _ _ q1, up2_k _ _ _ q1]
  have tk : ∀ q : Nat, q ≠ 0 ∧ q ≠ 8 ∧ q ≠ 9 ∧ q ≠ 10 → T q = S q := fun q hq => by rw [← hT]; exact stM.k hq
  refine ⟨fun q hq => ?_, fun j j1 j2 j3 => by rw [eo j j1 j2, ← hT, stM.c0, fset_n _ _ j3]; exact k2 j j1 j2 j3, ?_, ?_⟩
  · have q0 : q ≠ 0 := fun e => hq (by rw [e]; decide)
    have q8 : q ≠ 8 := fun e => hq (by rw [e]; decide)
    rw [ek q q0 q8, tk q ⟨q0, q8, fun e => hq (by rw [e]; decide), fun e => hq (by rw [e]; decide)⟩]; exact k1 q hq
  · rw [e7, e8, eo 9 (by decide) (by decide), f9, en]
    refine ⟨⟨e7, e8, by rw [eo 9 (by decide) (by decide), f9], en⟩, Or.inl rfl, fun _ => by rw [eo 1 (by decide) (by decide), f1]; exact ⟨by show 0 ≤ S 0 8 + 1; omega, hd1⟩, fun q => by dsimp only at q; omega, fun d' d1 d2 => ?_, fun d d1 d2 d3 => ?_⟩
    · have := hpl d' d1 d2
      rw [eo 1 (by decide) (by decide), ek 1 (by decide) (by decide), ek 2 (by decide) (by decide), ek 4 (by decide) (by decide), ek 7 (by decide) (by decide), ek 9 (by decide) (by decide), ek 10 (by decide) (by decide)]
      exact this
    · rw [eo 1 (by decide) (by decide), f1] at d2
      dsimp only at d3
      dsimp only
      rw [eo 1 (by decide) (by decide), f1, ek 1 (by decide) (by decide), ek 2 (by decide) (by decide), ek 4 (by decide) (by decide), ek 7 (by decide) (by decide), tk 1 (by decide), tk 2 (by decide), tk 4 (by decide), tk 7 (by decide)]
      by_cases e : d = S 0 8 + 1
      · subst e; rw [fset_e]
        have hb2 := ord_in hk1 hs1 (d := S 0 8 + 1) (by omega)
        have hn := hk1.1
        have := (wsum_in hk1 (b := S 7 (S 0 8 + 1)) (by omega) 6 (by omega)).1
        exact ⟨Int.le_refl _, this⟩
      · rw [fset_n _ _ e]
        by_cases e2 : d = S 0 8
        · subst e2; rw [fset_e]; omega
        · rw [fset_n _ _ e2]; exact r6 d d1 d2 (by show d ≤ S 0 8; omega)
  · rw [e7, e8, eo 9 (by decide) (by decide), f9, en]
    intro X hX
    refine k4 X (sEnd.step ?_ hX)
    rw [a0] at hd1
    rw [a0, a1, a2, a4, a7] at he hg
    rw [h7, sstep_go he hl hg hd1]
theorem runI.full {S0 S : jMem} {s0 : sst} {l t x y z : Int} (h : runI S0 s0 l S) (hk : mOK S0) (hs : mS S0) (h7 : S 0 7 = 0) (hl : l ≠ 0) (he : S 8 (S 0 8) ≠ wsum (S 0 1) (S 1) (S 2) (S 4) (S 7 (S 0 8)) 6) (hW : isWay (S 0 1) (S 1) (S 2) (S 4) (S 7 (S 0 8)) (S 8 (S 0 8)) t x y z) (hg : allAp (stM S t x y z) (S 7 (S 0 8)) (S 0 8)) (hd1 : S 0 8 + 1 = S 0 1) : runI S0 s0 (l - 1) (up2 (up2 (stM S t x y z) 0 8 (S 0 8 + 1)) 0 7 1) := by
  have hk1 := h.ok hk
  have hs1 := h.ms hs
  obtain ⟨hd, hp, hb⟩ := h.pre h7
  obtain ⟨a0, a1, a2, a3, a4, a7, -⟩ := h.cells
  have hpl := stM.plan hk1 hs1 hd hp hW (nx := fset (S 8) (S 0 8) (S 8 (S 0 8) + 1)) (fun d q => rfl)
  rw [stM.good hk1 hs1 hd hp hW] at hg
  obtain ⟨k1, k2, ⟨r1, r2, r3, r4, r5, r6⟩, k4⟩ := h
  generalize hT : stM S t x y z = T at *
  have f1 : T 0 1 = S 0 1 := by rw [← hT, stM.c0, fset_n _ _ (by decide)]
  have f9 : T 0 9 = S 0 9 + 1 := by rw [← hT, stM.c0, fset_e]
  have f8 : T 8 = fset (S 8) (S 0 8) (S 8 (S 0 8) + 1) := by rw [← hT, stM.c8]
  have e7 : up2 (up2 T 0 8 (S 0 8 + 1)) 0 7 1 0 7 = 1 := up2_eq _ _ _ _
  have e8 : up2 (up2 T 0 8 (S 0 8 + 1)) 0 7 1 0 8 = S 0 8 + 1 := by rw [up2_a _ _ _ (by decide), up2_eq]
  have eo : ∀ j, j ≠ 7 → j ≠ 8 → up2 (up2 T 0 8 (S 0 8 + 1)) 0 7 1 0 j = T 0 j := fun j j1 j2 => by rw [up2_a _ _ _ j1, up2_a _ _ _ j2]
  have ek : ∀ q : Nat, q ≠ 0 → up2 (up2 T 0 8 (S 0 8 + 1)) 0 7 1 q = T q := fun q q1 => by rw [up2_k _ _ _ q1, up2_k _ _ _ q1]
  have tk : ∀ q : Nat, q ≠ 0 ∧ q ≠ 8 ∧ q ≠ 9 ∧ q ≠ 10 → T q = S q := fun q hq => by rw [← hT]; exact stM.k hq
  refine ⟨fun q hq => ?_, fun j j1 j2 j3 => by rw [eo j j1 j2, ← hT, stM.c0, fset_n _ _ j3]; exact k2 j j1 j2 j3, ?_, ?_⟩
  · have q0 : q ≠ 0 := fun e => hq (by rw [e]; decide)
    rw [ek q q0, tk q ⟨q0, fun e => hq (by rw [e]; decide), fun e => hq (by rw [e]; decide), fun e => hq (by rw [e]; decide)⟩]; exact k1 q hq
  · rw [e7, e8, eo 9 (by decide) (by decide), f9, ek 8 (by decide), f8]
    refine ⟨⟨e7, e8, by rw [eo 9 (by decide) (by decide), f9], by rw [ek 8 (by decide), f8]⟩, Or.inr (Or.inl rfl), fun q => by dsimp only at q; omega, fun _ => by rw [eo 1 (by decide) (by decide), f1]; exact hd1, fun d' d1 d2 => ?_, fun d d1 d2 d3 => ?_⟩
    · have := hpl d' d1 d2
      rw [eo 1 (by decide) (by decide), ek 1 (by decide), ek 2 (by decide), ek 4 (by decide), ek 7 (by decide), ek 9 (by decide), ek 10 (by decide)]
      exact this
    · rw [eo 1 (by decide) (by decide), f1] at d2
      dsimp only at d3
      dsimp only
      rw [eo 1 (by decide) (by decide), f1, ek 1 (by decide), ek 2 (by decide), ek 4 (by decide), ek 7 (by decide), tk 1 (by decide), tk 2 (by decide), tk 4 (by decide), tk 7 (by decide)]
      by_cases e2 : d = S 0 8
      · subst e2; rw [fset_e]; omega
      · rw [fset_n _ _ e2]; exact r6 d d1 d2 (by show d ≤ S 0 8; omega)
  · rw [e7, e8, eo 9 (by decide) (by decide), f9, ek 8 (by decide), f8]
    intro X hX
    refine k4 X (sEnd.step ?_ hX)
    rw [a0] at hd1
    rw [a0, a1, a2, a4, a7] at he hg
    rw [h7, sstep_full he hl hg hd1]
