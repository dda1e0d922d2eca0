/-! the class and the model side by side -/
def stR (S M : jMem) : Prop := S 1 4 = M 0 1 ∧ S 2 = M 1 ∧ S 3 = M 2 ∧ S 4 = M 4 ∧ S 5 = M 3
def seR (S M : jMem) : Prop := mrel M (M 0 7, M 0 8, M 0 9, 0, M 8) ∧ crel S (M 0 7, M 0 8, M 0 9, 0, M 8)
def laR (S M : jMem) : Prop := mlOK M ∧ mlP M ∧ lOK S ∧ isMset M (S 18 4) ∧ ∀ b, 0 ≤ b → zbit (S 18 4) b → S 19 b = M 5 b - 1 ∧ ∀ x, 0 ≤ x → x < 3 → S 20 (b * 3 + x) = M 6 (b * 3 + x) ∧ S 21 (b * 3 + x) = men M (b * 3 + x)
def duR (S M : jMem) : Prop := (S 25 8 = 0 ∨ (S 25 8 = 1 ∧ dOK S)) ∧ (S 25 9 = 0 ∨ (S 25 9 = 1 ∧ isProof (S 1 4) (S 2) (S 3) (S 4) (S 26))) ∧ (M 0 25 = 0 ∨ (M 0 25 = 1 ∧ isProof (M 0 1) (M 1) (M 2) (M 4) (M 21)))
def REL (S M : jMem) : Prop := stR S M ∧ mOK M ∧ (mS M ∧ cS S) ∧ seR S M ∧ laR S M ∧ duR S M
theorem stR.ok {S M : jMem} (h : stR S M) (hk : mOK M) : cOK S := by
  show sOK _ _ _ _ _
  rw [h.1, h.2.1, h.2.2.1, h.2.2.2.1, h.2.2.2.2]; exact hk
theorem REL.ck {S M : jMem} (h : REL S M) : cOK S := h.1.ok h.2.1
/-! what each part of it depends on -/
theorem crel.eq {S S' : jMem} {s : sst} (h : crel S s) (e : ∀ q ∈ [1, 2, 3, 4, 6, 7, 9, 10, 11, 12, 13, 14, 15, 16, 17], S' q = S q) : crel S' s := by
  have ag : ∀ x, agr S S' x := fun x => by
    refine ⟨⟨e 1 (by decide), e 2 (by decide), e 3 (by decide), e 4 (by decide), e 7 (by decide)⟩, ⟨?_, ?_, ?_, ?_, ?_⟩, ⟨?_, ?_, ?_⟩, ⟨?_, ?_, ?_⟩, ⟨?_, ?_, ?_⟩, ⟨?_, ?_, ?_⟩⟩
    · rw [e 9 (by decide)]
    · rw [e 14 (by decide)]
    · rw [e 15 (by decide)]
    · rw [e 16 (by decide)]
    · rw [e 17 (by decide)]
    · rw [e 10 (by decide)]
    · rw [e 10 (by decide)]
    · rw [e 10 (by decide)]
    · rw [e 11 (by decide)]
    · rw [e 11 (by decide)]
    · rw [e 11 (by decide)]
    · rw [e 12 (by decide)]
    · rw [e 12 (by decide)]
    · rw [e 12 (by decide)]
    · rw [e 13 (by decide)]
    · rw [e 13 (by decide)]
    · rw [e 13 (by decide)]
  have e6 := e 6 (by decide)
  have e1 := e 1 (by decide)
  obtain ⟨⟨a1, a2⟩, b, c, d⟩ := h
  refine ⟨⟨by rw [e6]; exact a1, by rw [e6]; exact a2⟩, b, fun q => ?_, fun q x x1 x2 => (d q x x1 (by rw [← e1]; exact x2)).agr (ag x) rfl⟩
  obtain ⟨c1, c2, c3, c4⟩ := c q
  refine ⟨by rw [e1]; exact c1, by rw [e6]; exact c2, past.agr c3 (fun x _ _ => ag x) (fun _ _ _ => rfl), ?_⟩
  rcases c4 with ⟨f1, f2, f3, f4, f5, f6⟩ | c4
  · exact Or.inl ⟨by rw [e 9 (by decide)]; exact f1, by rw [e 14 (by decide)]; exact f2, by rw [e 15 (by decide)]; exact f3, by rw [e 16 (by decide)]; exact f4, by rw [e 17 (by decide)]; exact f5, f6⟩
  · exact Or.inr (c4.agr (fun x _ _ => ag x) c1.1 rfl)
theorem cS.eq {S S' : jMem} (h : cS S) (e : ∀ q ∈ [1, 2, 3, 4, 7, 8], S' q = S q) : cS S' := by
  unfold cS; rw [e 1 (by decide), e 2 (by decide), e 3 (by decide), e 4 (by decide), e 7 (by decide), e 8 (by decide)]; exact h
theorem mrel.eq {M M' : jMem} {s : sst} (h : mrel M s) (e0 : M' 0 1 = M 0 1 ∧ M' 0 7 = M 0 7 ∧ M' 0 8 = M 0 8 ∧ M' 0 9 = M 0 9) (e : ∀ q ∈ [1, 2, 4, 7, 8, 9, 10], M' q = M q) : mrel M' s := by
  unfold mrel mplan at h ⊢
  rw [e0.1, e0.2.1, e0.2.2.1, e0.2.2.2, e 1 (by decide), e 2 (by decide), e 4 (by decide), e 7 (by decide), e 8 (by decide), e 9 (by decide), e 10 (by decide)]; exact h
theorem seR.eq {S M S' M' : jMem} (h : seR S M) (ec : ∀ q ∈ [1, 2, 3, 4, 6, 7, 9, 10, 11, 12, 13, 14, 15, 16, 17], S' q = S q) (e0 : M' 0 1 = M 0 1 ∧ M' 0 7 = M 0 7 ∧ M' 0 8 = M 0 8 ∧ M' 0 9 = M 0 9) (em : ∀ q ∈ [1, 2, 4, 7, 8, 9, 10], M' q = M q) : seR S' M' := by
  unfold seR
  rw [e0.2.1, e0.2.2.1, e0.2.2.2, em 8 (by decide)]
  exact ⟨h.1.eq e0 em, h.2.eq ec⟩
theorem men_eq {M M' : jMem} (h2 : M' 2 = M 2) (h5 : M' 5 = M 5) (h6 : M' 6 = M 6) : men M' = men M := by
  funext i; unfold men; rw [h2, h5, h6]
theorem laR.eq {S M S' M' : jMem} (h : laR S M) (ec : S' 18 4 = S 18 4 ∧ S' 19 = S 19 ∧ S' 20 = S 20 ∧ S' 21 = S 21) (e0 : M' 0 1 = M 0 1) (em : M' 1 = M 1 ∧ M' 2 = M 2 ∧ M' 4 = M 4 ∧ M' 5 = M 5 ∧ M' 6 = M 6) : laR S' M' := by
  obtain ⟨c1, c2, c3, c4⟩ := ec
  obtain ⟨m1, m2, m4, m5, m6⟩ := em
  unfold laR mlOK mlP lOK isMset
  rw [c1, c2, c3, c4, e0, m1, m2, m4, m5, m6, men_eq m2 m5 m6]; exact h
theorem duR.eq {S M S' M' : jMem} (h : duR S M) (ec : ∀ q ∈ [1, 2, 3, 4, 25, 26, 27, 28, 29], S' q = S q) (e0 : M' 0 1 = M 0 1 ∧ M' 0 25 = M 0 25) (em : ∀ q ∈ [1, 2, 4, 21], M' q = M q) : duR S' M' := by
  have hd : dOK S → dOK S' := fun q => by
    unfold dOK vOK at q ⊢
    rw [ec 1 (by decide), ec 2 (by decide), ec 3 (by decide), ec 4 (by decide), ec 27 (by decide), ec 28 (by decide), ec 29 (by decide)]; exact q
  unfold duR
  rw [ec 25 (by decide), ec 1 (by decide), ec 2 (by decide), ec 3 (by decide), ec 4 (by decide), ec 26 (by decide), e0.1, e0.2, em 1 (by decide), em 2 (by decide), em 4 (by decide), em 21 (by decide)]
  exact ⟨h.1.elim Or.inl (fun q => Or.inr ⟨q.1, hd q.2⟩), h.2.1, h.2.2⟩
/-! beginning anew -/
theorem REL.anew {S0 M0 S M : jMem} (hst : stR S0 M0) (hk : mOK M0) (h6 : ∀ i, 0 ≤ i → i < 24 → 0 ≤ M0 6 i ∧ M0 6 i ≤ 20) (h20 : ∀ i, 0 ≤ i → i < 24 → 0 ≤ S0 20 i ∧ S0 20 i ≤ 20) (h21 : ∀ i, 0 ≤ i → i < 24 → 0 ≤ S0 21 i ∧ S0 21 i ≤ 20) (hc : cAnew S0 S) (hm : mAnew M0 M) : REL S M := by
  obtain ⟨S1, ⟨r1, r2, ⟨r3, r4, r5⟩, ⟨r6, r7, r8, r9, r10⟩⟩, rfl⟩ := hc
  obtain ⟨m1, m2, ⟨n1, n7, n8, n9, n25⟩, m4, m5⟩ := hm
  have hn := hk.1
  have e : ∀ q : Nat, q ≠ 18 → q ≠ 25 → up2 (up2 (up2 S1 18 4 0) 25 8 0) 25 9 0 q = S1 q := fun q q1 q2 => by rw [up2_k _ _ _ q2, up2_k _ _ _ q2, up2_k _ _ _ q1]
  have st : stR (up2 (up2 (up2 S1 18 4 0) 25 8 0) 25 9 0) M := by
    obtain ⟨s1, s2, s3, s4, s5⟩ := hst
    refine ⟨?_, ?_, ?_, ?_, ?_⟩
    · rw [e 1 (by decide) (by decide), r1 1 (by decide), s1, n1]
    · rw [e 2 (by decide) (by decide), r1 2 (by decide), s2, m1 1 (by decide)]
    · rw [e 3 (by decide) (by decide), r1 3 (by decide), s3, m1 2 (by decide)]
    · rw [e 4 (by decide) (by decide), r1 4 (by decide), s4, m1 4 (by decide)]
    · rw [e 5 (by decide) (by decide), r1 5 (by decide), s5, m1 3 (by decide)]
  have hkM : mOK M := m1.mok (by decide) n1 hk
  have cn : S1 1 4 = M0 0 1 := by rw [r1 1 (by decide)]; exact hst.1
  have c5 : S1 6 15 = bb (M0 0 1 = 0) := by rw [r5, hst.1]
  refine ⟨st, hkM, ⟨m2, r2.eq (fun q hq => e q (fun x => by subst x; revert hq; decide) (fun x => by subst x; revert hq; decide))⟩, ⟨?_, ?_⟩, ⟨⟨fun b b1 b2 => ?_, fun i i1 i2 => ?_, fun b b1 b2 => ?_⟩, fun b b1 b2 b3 => ?_, ⟨⟨?_, ?_⟩, fun i i1 i2 => ?_, fun i i1 i2 => ?_⟩, ⟨⟨?_, ?_⟩, fun j hj => ?_⟩, fun b b1 b2 => ?_⟩, Or.inl ?_, Or.inl ?_, Or.inl n25⟩
  · rw [n7, n8, n9]
    refine ⟨⟨n7, n8, n9, rfl⟩, ?_, fun q => ?_, fun q => ?_, fun d' d1 d2 => by dsimp only at d2; omega, fun d d1 d2 d3 => ?_⟩
    · rcases bb_or (M0 0 1 = 0) with q | q
      · exact Or.inl q
      · exact Or.inr (Or.inl q)
    · have q2 := bb_0.mp q
      show 0 ≤ 0 ∧ 0 < M 0 1
      rw [n1]; omega
    · have q2 := bb_1.mp q
      show 0 = M 0 1
      rw [n1]; exact q2.symm
    · dsimp only at d3
      have d0 : d = 0 := by omega
      subst d0
      show 0 ≤ M 8 0 ∧ M 8 0 ≤ _
      rw [m5 0 (by omega) (by omega)]
      have hb := ord_in hkM m2 (d := 0) (by omega)
      have hn2 := hkM.1
      have := (wsum_in hkM (b := M 7 0) (by omega) 6 (by omega)).1
      exact ⟨Int.le_refl _, this⟩
  · refine crel.eq (S := S1) ?_ (fun q hq => e q (fun x => by subst x; revert hq; decide) (fun x => by subst x; revert hq; decide))
    rw [n7, n8, n9]
    refine ⟨⟨c5, r4⟩, ?_, fun q => ⟨?_, r3, fun x x1 x2 => by dsimp only at x2; omega, Or.inl ⟨r6, r7, r8, r9, r10, m5 0 (by omega) (by omega)⟩⟩, fun q x x1 x2 => ?_⟩
    · rcases bb_or (M0 0 1 = 0) with q | q
      · exact Or.inl q
      · exact Or.inr (Or.inl q)
    · have q2 := bb_0.mp q
      show 0 ≤ 0 ∧ 0 < S1 1 4
      rw [cn]; omega
    · have q2 := bb_1.mp q
      rw [cn] at x2; omega
  · rw [m4 b b1 b2]; omega
  · rw [m1 6 (by decide)]; exact h6 i i1 i2
  · exact m4 b (by have := hkM.1; omega) b2
  · have hn2 := hkM.1
    rw [m4 b b1 (by omega)] at b3; omega
  · rw [up2_k _ _ _ (by decide), up2_k _ _ _ (by decide), up2_eq]; omega
  · rw [up2_k _ _ _ (by decide), up2_k _ _ _ (by decide), up2_eq]; omega
  · rw [e 20 (by decide) (by decide), r1 20 (by decide)]; exact h20 i i1 i2
  · rw [e 21 (by decide) (by decide), r1 21 (by decide)]; exact h21 i i1 i2
  · rw [up2_k _ _ _ (by decide), up2_k _ _ _ (by decide), up2_eq]; omega
  · rw [up2_k _ _ _ (by decide), up2_k _ _ _ (by decide), up2_eq]; omega
  · rw [up2_k _ _ _ (by decide), up2_k _ _ _ (by decide), up2_eq]
    refine ⟨fun q => absurd q (zbit_0 j), fun q => ?_⟩
    have hn2 := hkM.1
    rw [m4 j hj (by omega)] at q; omega
  · rw [up2_k _ _ _ (by decide), up2_k _ _ _ (by decide), up2_eq] at b2
    exact absurd b2 (zbit_0 b)
  · rw [up2_ne (Or.inr (by decide)), up2_eq]
  · rw [up2_eq]
theorem REL.rng {S M : jMem} (h : REL S M) : (∀ i, 0 ≤ i → i < 24 → 0 ≤ M 6 i ∧ M 6 i ≤ 20) ∧ (∀ i, 0 ≤ i → i < 24 → 0 ≤ S 20 i ∧ S 20 i ≤ 20) ∧ (∀ i, 0 ≤ i → i < 24 → 0 ≤ S 21 i ∧ S 21 i ≤ 20) := ⟨h.2.2.2.2.1.1.2.1, h.2.2.2.2.1.2.2.1.2.1, h.2.2.2.2.1.2.2.1.2.2⟩
section Rl
variable {S M S' M' : jMem} {v u : Int}
theorem REL.bin (h : REL S M) {x y z : Int} (hc : if (1 ≤ x ∧ x ≤ 20) ∧ (1 ≤ y ∧ y ≤ 20) ∧ (1 ≤ z ∧ z ≤ 20) then v = 0 ∧ cAnew (binC S x y z) S' else v = -1 ∧ S' = S) (hm : if (1 ≤ x ∧ x ≤ 20) ∧ (1 ≤ y ∧ y ≤ 20) ∧ (1 ≤ z ∧ z ≤ 20) then u = 0 ∧ mAnew (binM M x y z) M' else u = -1 ∧ M' = M) : v = u ∧ REL S' M' := by
  by_cases c : (1 ≤ x ∧ x ≤ 20) ∧ (1 ≤ y ∧ y ≤ 20) ∧ (1 ≤ z ∧ z ≤ 20)
  · rw [if_pos c] at hc hm
    obtain ⟨r6, r20, r21⟩ := h.rng
    obtain ⟨s1, s2, s3, s4, s5⟩ := h.1
    refine ⟨by rw [hc.1, hm.1], REL.anew (S0 := binC S x y z) (M0 := binM M x y z) ⟨s1, ?_, s3, s4, s5⟩ (binM.ok h.2.1 c.1 c.2.1 c.2.2) r6 r20 r21 hc.2 hm.2⟩
    rw [binC.c, s2]; unfold binM; rw [up2_s, up2_s, up2_s]
  · rw [if_neg c] at hc hm
    rw [hc.1, hm.1, hc.2, hm.2]; exact ⟨rfl, h⟩
theorem REL.box (h : REL S M) {x y z : Int} (hc : if (1 ≤ x ∧ x ≤ 20) ∧ (1 ≤ y ∧ y ≤ 20) ∧ (1 ≤ z ∧ z ≤ 20) then (if S 1 4 = 8 then v = -3 ∧ S' = S else v = S 1 4 ∧ cAnew (boxC S x y z) S') else v = -1 ∧ S' = S) (hm : if (1 ≤ x ∧ x ≤ 20) ∧ (1 ≤ y ∧ y ≤ 20) ∧ (1 ≤ z ∧ z ≤ 20) then (if M 0 1 = 8 then u = -3 ∧ M' = M else u = M 0 1 ∧ mAnew (boxM M x y z) M') else u = -1 ∧ M' = M) : v = u ∧ REL S' M' := by
  obtain ⟨s1, s2, s3, s4, s5⟩ := h.1
  by_cases c : (1 ≤ x ∧ x ≤ 20) ∧ (1 ≤ y ∧ y ≤ 20) ∧ (1 ≤ z ∧ z ≤ 20)
  · rw [if_pos c] at hc hm
    rw [s1] at hc
    by_cases c8 : M 0 1 = 8
    · rw [if_pos c8] at hc hm
      rw [hc.1, hm.1, hc.2, hm.2]; exact ⟨rfl, h⟩
    · rw [if_neg c8] at hc hm
      obtain ⟨r6, r20, r21⟩ := h.rng
      have hn := h.2.1.1
      refine ⟨by rw [hc.1, hm.1], REL.anew (S0 := boxC S x y z) (M0 := boxM M x y z) ⟨?_, ?_, ?_, ?_, ?_⟩ (boxM.ok h.2.1 (by omega) c.1 c.2.1 c.2.2) r6 r20 r21 hc.2 hm.2⟩
      · rw [boxC.n, boxM.n, s1]
      · exact s2
      · rw [boxC.c3, boxM.c2, s1, s3]
      · rw [boxC.c4, boxM.c4, s1, s4]
      · rw [boxC.c5, boxM.c3, s1, s5]
  · rw [if_neg c] at hc hm
    rw [hc.1, hm.1, hc.2, hm.2]; exact ⟨rfl, h⟩
theorem REL.turns (h : REL S M) {b x : Int} (hc : if (0 ≤ b ∧ b < S 1 4) ∧ (1 ≤ x ∧ x ≤ 63) then v = S 4 b ∧ cAnew (up2 S 4 b x) S' else v = -1 ∧ S' = S) (hm : if (0 ≤ b ∧ b < M 0 1) ∧ (1 ≤ x ∧ x ≤ 63) then u = M 4 b ∧ mAnew (up2 M 4 b x) M' else u = -1 ∧ M' = M) : v = u ∧ REL S' M' := by
  obtain ⟨s1, s2, s3, s4, s5⟩ := h.1
  rw [s1] at hc
  by_cases c : (0 ≤ b ∧ b < M 0 1) ∧ (1 ≤ x ∧ x ≤ 63)
  · rw [if_pos c] at hc hm
    obtain ⟨r6, r20, r21⟩ := h.rng
    refine ⟨by rw [hc.1, hm.1, s4], REL.anew (S0 := up2 S 4 b x) (M0 := up2 M 4 b x) ⟨s1, s2, s3, ?_, s5⟩ (turnM.ok h.2.1 c.2) r6 r20 r21 hc.2 hm.2⟩
    rw [up2_s, up2_s, s4]
  · rw [if_neg c] at hc hm
    rw [hc.1, hm.1, hc.2, hm.2]; exact ⟨rfl, h⟩
theorem REL.clear (h : REL S M) (hc : v = S 1 4 ∧ cAnew (up2 S 1 4 0) S') (hm : u = M 0 1 ∧ mAnew (up2 M 0 1 0) M') : v = u ∧ REL S' M' := by
  obtain ⟨s1, s2, s3, s4, s5⟩ := h.1
  obtain ⟨r6, r20, r21⟩ := h.rng
  exact ⟨by rw [hc.1, hm.1, s1], REL.anew (S0 := up2 S 1 4 0) (M0 := up2 M 0 1 0) ⟨by rw [up2_eq, up2_eq], s2, s3, s4, s5⟩ (noM.ok h.2.1) r6 r20 r21 hc.2 hm.2⟩
theorem REL.weight (h : REL S M) {b n : Int} (hc : if (0 ≤ b ∧ b < S 1 4) ∧ (0 ≤ n ∧ n ≤ 1000) then v = S 5 b ∧ S' = up2 S 5 b n else v = -1 ∧ S' = S) (hm : if (0 ≤ b ∧ b < M 0 1) ∧ (0 ≤ n ∧ n ≤ 1000) then u = M 3 b ∧ M' = up2 M 3 b n else u = -1 ∧ M' = M) : v = u ∧ REL S' M' := by
  obtain ⟨s1, s2, s3, s4, s5⟩ := h.1
  rw [s1] at hc
  by_cases c : (0 ≤ b ∧ b < M 0 1) ∧ (0 ≤ n ∧ n ≤ 1000)
  · rw [if_pos c] at hc hm
    obtain ⟨hc1, rfl⟩ := hc
    obtain ⟨hm1, rfl⟩ := hm
    have ec : ∀ q : Nat, q ≠ 5 → up2 S 5 b n q = S q := fun q hq => up2_k _ _ _ hq
    have em : ∀ q : Nat, q ≠ 3 → up2 M 3 b n q = M q := fun q hq => up2_k _ _ _ hq
    obtain ⟨-, hk, ⟨ms, cs⟩, se, la, du⟩ := h
    refine ⟨by rw [hc1, hm1, s5], ⟨s1, s2, s3, s4, by rw [up2_s, up2_s, s5]⟩, wtM.ok hk c.2, ⟨ms.eq rfl rfl rfl rfl rfl rfl rfl rfl, cs.eq (fun q hq => ec q (fun x => by subst x; revert hq; decide))⟩, se.eq (fun q hq => ec q (fun x => by subst x; revert hq; decide)) ⟨rfl, rfl, rfl, rfl⟩ (fun q hq => em q (fun x => by subst x; revert hq; decide)), la.eq ⟨rfl, rfl, rfl, rfl⟩ rfl ⟨rfl, rfl, rfl, rfl, rfl⟩, du.eq (fun q hq => ec q (fun x => by subst x; revert hq; decide)) ⟨rfl, rfl⟩ (fun q hq => em q (fun x => by subst x; revert hq; decide))⟩
  · rw [if_neg c] at hc hm
    rw [hc.1, hm.1, hc.2, hm.2]; exact ⟨rfl, h⟩
end Rl
/-! the order's rows agree -/
theorem REL.ord {S M : jMem} (h : REL S M) {d : Int} (hd : 0 ≤ d ∧ d < M 0 1) : S 7 d = M 7 d := by
  obtain ⟨s1, s2, s3, s4, s5⟩ := h.1
  have c := h.2.2.1.2.1
  rw [s1, s3] at c
  exact isOrd.uniq _ c h.2.2.1.1.1 d hd.1 (by omega)
theorem sstep_ord {n : Int} {len sid tb o o' : Int → Int} (ho : ∀ d, 0 ≤ d → d < n → o d = o' d) {s : sst} (hs : s.1 = 0 → 0 ≤ s.2.1 ∧ s.2.1 < n) : sstep n len sid tb o s = sstep n len sid tb o' s ∧ ((sstep n len sid tb o s).1 = 0 → 0 ≤ (sstep n len sid tb o s).2.1 ∧ (sstep n len sid tb o s).2.1 < n) := by
  obtain ⟨a, d, w, l, nx⟩ := s
  by_cases h0 : a = 0
  · subst h0
    have hd := hs rfl
    dsimp only at hd
    have e := ho d hd.1 hd.2
    have hg : pgood n len sid tb o nx d ↔ pgood n len sid tb o' nx d := by
      unfold pgood
      constructor
      · intro q d' a1 a2
        have := q d' a1 a2
        rw [e, ho d' a1 (by omega)] at this; exact this
      · intro q d' a1 a2
        rw [e, ho d' a1 (by omega)]; exact q d' a1 a2
    by_cases c1 : nx d = wsum n len sid tb (o d) 6
    · rw [sstep_back c1, sstep_back (by rw [← e]; exact c1)]
      refine ⟨rfl, fun q => ?_⟩
      dsimp only at q ⊢
      by_cases c : d - 1 < 0
      · rw [if_pos c] at q; omega
      · omega
    · by_cases c2 : l = 0
      · subst c2
        rw [sstep_out c1, sstep_out (by rw [← e]; exact c1)]
        exact ⟨rfl, fun _ => hd⟩
      · by_cases c3 : pgood n len sid tb o nx d
        · by_cases c4 : d + 1 < n
          · rw [sstep_go c1 c2 c3 c4, sstep_go (by rw [← e]; exact c1) c2 (hg.mp c3) c4]
            exact ⟨rfl, fun _ => ⟨by show 0 ≤ d + 1; omega, c4⟩⟩
          · rw [sstep_full c1 c2 c3 (by omega), sstep_full (by rw [← e]; exact c1) c2 (hg.mp c3) (by omega)]
            exact ⟨rfl, fun q => by dsimp only at q; omega⟩
        · rw [sstep_no c1 c2 c3, sstep_no (by rw [← e]; exact c1) c2 (fun q => c3 (hg.mpr q))]
          exact ⟨rfl, fun _ => hd⟩
  · rw [sstep_end h0, sstep_end h0]
    exact ⟨rfl, fun q => absurd q h0⟩
theorem itr_ord {n : Int} {len sid tb o o' : Int → Int} (ho : ∀ d, 0 ≤ d → d < n → o d = o' d) : ∀ (k : Nat) {s : sst}, (s.1 = 0 → 0 ≤ s.2.1 ∧ s.2.1 < n) → itr (sstep n len sid tb o) k s = itr (sstep n len sid tb o') k s ∧ ((itr (sstep n len sid tb o) k s).1 = 0 → 0 ≤ (itr (sstep n len sid tb o) k s).2.1 ∧ (itr (sstep n len sid tb o) k s).2.1 < n)
  | 0, _, hs => ⟨rfl, hs⟩
  | k + 1, s, hs => by
    obtain ⟨h1, h2⟩ := sstep_ord (len := len) (sid := sid) (tb := tb) ho hs
    have h3 := itr_ord (len := len) (sid := sid) (tb := tb) ho k h2
    refine ⟨?_, h3.2⟩
    show itr _ k (sstep n len sid tb o s) = itr _ k (sstep n len sid tb o' s)
    rw [h3.1, h1]
theorem sEnd_ord {n : Int} {len sid tb o o' : Int → Int} (ho : ∀ d, 0 ≤ d → d < n → o d = o' d) {s s' : sst} (hs : s.1 = 0 → 0 ≤ s.2.1 ∧ s.2.1 < n) (h : sEnd (sstep n len sid tb o) s s') : sEnd (sstep n len sid tb o') s s' := by
  obtain ⟨k, h1, h2⟩ := h
  obtain ⟨i1, i2⟩ := itr_ord (len := len) (sid := sid) (tb := tb) ho k hs
  rw [h1] at i1 i2
  obtain ⟨j1, -⟩ := sstep_ord (len := len) (sid := sid) (tb := tb) ho i2
  exact ⟨k, i1.symm, by rw [← j1]; exact h2⟩
theorem REL.run {S M S' M' : jMem} {v u w : Int} (h : REL S M) (hc : if 1 ≤ w ∧ w ≤ 20000 then (∃ s', sEnd (sstep (S 1 4) (S 2) (S 3) (S 4) (S 7)) (M 0 7, M 0 8, M 0 9, w, M 8) s' ∧ crel S' s' ∧ v = s'.1 ∧ keeps [6, 9, 10, 11, 12, 13, 14, 15, 16, 17] S S') else v = -1 ∧ S' = S) (hm : if 1 ≤ w ∧ w ≤ 20000 then ∃ s', sEnd (sstep (M 0 1) (M 1) (M 2) (M 4) (M 7)) (M 0 7, M 0 8, M 0 9, w, M 8) s' ∧ mrel M' s' ∧ u = s'.1 ∧ keeps [0, 8, 9, 10] M M' ∧ ∀ j, j ≠ 7 → j ≠ 8 → j ≠ 9 → M' 0 j = M 0 j else u = -1 ∧ M' = M) : v = u ∧ REL S' M' := by
  by_cases c : 1 ≤ w ∧ w ≤ 20000
  · rw [if_pos c] at hc hm
    obtain ⟨s', c1, c2, c3, c4⟩ := hc
    obtain ⟨t', d1, d2, d3, d4, d5⟩ := hm
    have hord := fun d a b => REL.ord h (d := d) ⟨a, b⟩
    obtain ⟨⟨s1, s2, s3, s4, s5⟩, hk, ⟨ms, cs⟩, ⟨se1, se2⟩, la, du⟩ := h
    rw [s1, s2, s3, s4] at c1
    have c1' := sEnd_ord (o' := M 7) hord (s := (M 0 7, M 0 8, M 0 9, w, M 8)) se1.2.2.1 c1
    have e := c1'.uniq d1
    subst e
    have e0 : M' 0 7 = s'.1 ∧ M' 0 8 = s'.2.1 ∧ M' 0 9 = s'.2.2.1 ∧ M' 8 = s'.2.2.2.2 := d2.1
    have ek : ∀ j, j ≠ 7 → j ≠ 8 → j ≠ 9 → M' 0 j = M 0 j := d5
    refine ⟨by rw [c3, d3], ⟨by rw [c4 1 (by decide), ek 1 (by decide) (by decide) (by decide)]; exact s1, by rw [c4 2 (by decide), d4 1 (by decide)]; exact s2, by rw [c4 3 (by decide), d4 2 (by decide)]; exact s3, by rw [c4 4 (by decide), d4 4 (by decide)]; exact s4, by rw [c4 5 (by decide), d4 3 (by decide)]; exact s5⟩, d4.mok (by decide) (ek 1 (by decide) (by decide) (by decide)) hk, ⟨ms.eq (ek 1 (by decide) (by decide) (by decide)) (d4 1 (by decide)) (d4 2 (by decide)) (d4 4 (by decide)) (d4 7 (by decide)) (d4 11 (by decide)) (d4 12 (by decide)) (d4 13 (by decide)), cs.eq (fun q hq => c4 q (fun x => by revert hq x; revert q; decide))⟩, ?_, la.eq ⟨by rw [c4 18 (by decide)], c4 19 (by decide), c4 20 (by decide), c4 21 (by decide)⟩ (ek 1 (by decide) (by decide) (by decide)) ⟨d4 1 (by decide), d4 2 (by decide), d4 4 (by decide), d4 5 (by decide), d4 6 (by decide)⟩, du.eq (fun q hq => c4 q (fun x => by revert hq x; revert q; decide)) ⟨ek 1 (by decide) (by decide) (by decide), ek 25 (by decide) (by decide) (by decide)⟩ (fun q hq => d4 q (fun x => by revert hq x; revert q; decide))⟩
    unfold seR
    rw [e0.1, e0.2.1, e0.2.2.1, e0.2.2.2]
    exact ⟨d2, c2⟩
  · rw [if_neg c] at hc hm
    rw [hc.1, hm.1, hc.2, hm.2]; exact ⟨rfl, h⟩
theorem REL.told {S M : jMem} (h : REL S M) {w k : Int} : ptold (S 6 14) (S 1 4) (S 2) (S 3) (S 4) (S 7) w k = ptold (M 0 9) (M 0 1) (M 1) (M 2) (M 4) (M 7) w k := by
  have e := h.2.2.2.1.2.1.2
  dsimp only at e
  obtain ⟨s1, s2, s3, s4, s5⟩ := h.1
  unfold ptold
  rw [e, s1, s2, s3, s4]
  by_cases c : (1 ≤ w ∧ w ≤ 5) ∧ (0 ≤ k ∧ k < M 0 1)
  · rw [h.ord (d := k) (by omega)]
  · rw [if_neg c, if_neg c]
