/-! laying, lifting, planning; trees; duals -/
theorem layM.k {M : jMem} {b t x y z : Int} {q : Nat} (h : q ≠ 5 ∧ q ≠ 6) : layM M b t x y z q = M q := by
  unfold layM; rw [up2_k _ _ _ h.2, up2_k _ _ _ h.2, up2_k _ _ _ h.2, up2_k _ _ _ h.1]
theorem layM.c5 {M : jMem} {b t x y z : Int} : layM M b t x y z 5 = fset (M 5) b (t + 1) := by
  unfold layM; rw [up2_k _ _ _ (by decide), up2_k _ _ _ (by decide), up2_k _ _ _ (by decide), up2_s]
theorem layM.c6 {M : jMem} {b t x y z : Int} : layM M b t x y z 6 = fset (fset (fset (M 6) (b * 3) x) (b * 3 + 1) y) (b * 3 + 2) z := by
  unfold layM; rw [up2_s, up2_s, up2_s, up2_k _ _ _ (by decide), Int.mul_comm]
theorem layM.own {M : jMem} {b t x y z : Int} : layM M b t x y z 5 b = t + 1 ∧ layM M b t x y z 6 (b * 3) = x ∧ layM M b t x y z 6 (b * 3 + 1) = y ∧ layM M b t x y z 6 (b * 3 + 2) = z := by
  rw [layM.c5, layM.c6]
  refine ⟨fset_e _ _ _, ?_, ?_, fset_e _ _ _⟩
  · rw [fset_n _ _ (by omega), fset_n _ _ (by omega), fset_e]
  · rw [fset_n _ _ (by omega), fset_e]
theorem layM.oth {M : jMem} {b t x y z c : Int} (h : c ≠ b) : layM M b t x y z 5 c = M 5 c ∧ layM M b t x y z 6 (c * 3) = M 6 (c * 3) ∧ layM M b t x y z 6 (c * 3 + 1) = M 6 (c * 3 + 1) ∧ layM M b t x y z 6 (c * 3 + 2) = M 6 (c * 3 + 2) := by
  rw [layM.c5, layM.c6]
  refine ⟨fset_n _ _ h, ?_, ?_, ?_⟩
  all_goals rw [fset_n _ _ (by omega), fset_n _ _ (by omega), fset_n _ _ (by omega)]
theorem three {P : Int → Prop} (h0 : P 0) (h1 : P 1) (h2 : P 2) : ∀ x, 0 ≤ x → x < 3 → P x := fun x a b => by
  rcases (show x = 0 ∨ x = 1 ∨ x = 2 by omega) with e | e | e
  · rw [e]; exact h0
  · rw [e]; exact h1
  · rw [e]; exact h2
theorem laR.put {S M : jMem} {b t x y z : Int} (h : laR S M) (hk : mOK M) (hkS : cOK S) (h3 : S 3 = M 2) (hp : pplace (M 0 1) (M 1) (M 2) (M 4) b t x y z) : laR (putS S b t x y z) (layM M b t x y z) := by
  have hn := hk.1
  obtain ⟨hb, ht, -⟩ := id hp
  have hi := place_in hk hp
  rw [← h3] at hi
  obtain ⟨l1, l2, l3, l4, l5⟩ := h
  have e0 : layM M b t x y z 0 = M 0 := layM.k (by decide)
  have e1 : layM M b t x y z 1 = M 1 := layM.k (by decide)
  have e2 : layM M b t x y z 2 = M 2 := layM.k (by decide)
  have e4 : layM M b t x y z 4 = M 4 := layM.k (by decide)
  refine ⟨layM_ok hk l1 hp, fun c c1 c2 c3 => ?_, putS.l hkS l3 (by omega) hi.1 hi.2.1 hi.2.2, ⟨⟨?_, ?_⟩, fun j hj => ?_⟩, fun c c1 c2 => ?_⟩
  · rw [e0] at c2
    rw [e0, e1, e2, e4]
    by_cases e : c = b
    · subst e
      obtain ⟨o1, o2, o3, o4⟩ := layM.own (M := M) (b := c) (t := t) (x := x) (y := y) (z := z)
      rw [o1, o2, o3, o4, show t + 1 - 1 = t by omega]; exact hp
    · obtain ⟨o1, o2, o3, o4⟩ := layM.oth (M := M) (b := b) (t := t) (x := x) (y := y) (z := z) e
      rw [o1] at c3
      rw [o1, o2, o3, o4]; exact l2 c c1 c2 c3
  · rw [putS.c18]; exact zor_nn _ _
  · rw [putS.c18]; exact zor_lt (k := 8) l4.1.1 l4.1.2 (zpow_lt (k := 8) hb.1 (by omega)).2
  · rw [putS.c18, zbit_zor l4.1.1 hb.1 hj, l4.2 j hj, e0]
    by_cases e : j = b
    · subst e
      rw [(layM.own (M := M) (b := j) (t := t) (x := x) (y := y) (z := z)).1]
      exact ⟨fun _ => ⟨hb.2, by omega⟩, fun _ => Or.inr rfl⟩
    · rw [(layM.oth (M := M) (b := b) (t := t) (x := x) (y := y) (z := z) e).1]
      exact ⟨fun q => q.elim id (fun w => absurd w e), Or.inl⟩
  · rw [putS.c18, zbit_zor l4.1.1 hb.1 c1] at c2
    by_cases e : c = b
    · subst e
      obtain ⟨⟨a1, a2, a3, a4⟩, a5, a6, a7⟩ := putS.own (S := S) (b := c) (t := t) (x := x) (y := y) (z := z)
      obtain ⟨o1, o2, o3, o4⟩ := layM.own (M := M) (b := c) (t := t) (x := x) (y := y) (z := z)
      refine ⟨by rw [a1, o1]; omega, three ?_ ?_ ?_⟩
      · rw [men_at _ (by omega), Int.add_zero, a2, a5, o1, o2, e2, h3, show t + 1 - 1 = t by omega]; exact ⟨rfl, rfl⟩
      · rw [men_at _ (by omega), a3, a6, o1, o3, e2, h3, show t + 1 - 1 = t by omega]; exact ⟨rfl, rfl⟩
      · rw [men_at _ (by omega), a4, a7, o1, o4, e2, h3, show t + 1 - 1 = t by omega]; exact ⟨rfl, rfl⟩
    · obtain ⟨⟨a1, a2, a3, a4⟩, a5, a6, a7⟩ := putS.oth (S := S) (b := b) (t := t) (x := x) (y := y) (z := z) e
      obtain ⟨o1, o2, o3, o4⟩ := layM.oth (M := M) (b := b) (t := t) (x := x) (y := y) (z := z) e
      have q := l5 c c1 (c2.resolve_right e)
      have q0 := q.2 0 (by omega) (by omega)
      have q1 := q.2 1 (by omega) (by omega)
      have q2 := q.2 2 (by omega) (by omega)
      rw [men_at _ (by omega)] at q0 q1 q2
      rw [Int.add_zero] at q0
      refine ⟨by rw [a1, o1]; exact q.1, three ?_ ?_ ?_⟩
      · rw [men_at _ (by omega), Int.add_zero, a2, a5, o1, o2, e2]; exact q0
      · rw [men_at _ (by omega), a3, a6, o1, o3, e2]; exact q1
      · rw [men_at _ (by omega), a4, a7, o1, o4, e2]; exact q2
section Rn
variable {S M S' M' : jMem} {v u : Int}
theorem REL.lay (h : REL S M) {b t x y z : Int} (hc : @ite Prop (pplace (S 1 4) (S 2) (S 3) (S 4) b t x y z) (Classical.propDecidable _) (v = povs (putS S b t x y z 18 4) (putS S b t x y z 20) (putS S b t x y z 21) ∧ S' = putS S b t x y z) (v = -1 ∧ S' = S)) (hm : @ite Prop (pplace (M 0 1) (M 1) (M 2) (M 4) b t x y z) (Classical.propDecidable _) (u = movs (layM M b t x y z) ∧ M' = layM M b t x y z) (u = -1 ∧ M' = M)) : v = u ∧ REL S' M' := by
  have hck := h.ck
  obtain ⟨⟨s1, s2, s3, s4, s5⟩, hk, ⟨ms, cs⟩, se, la, du⟩ := id h
  have e : pplace (S 1 4) (S 2) (S 3) (S 4) b t x y z ↔ pplace (M 0 1) (M 1) (M 2) (M 4) b t x y z := by rw [s1, s2, s3, s4]
  by_cases c : pplace (M 0 1) (M 1) (M 2) (M 4) b t x y z
  · rw [if_pos c] at hm
    rw [if_pos (e.mpr c)] at hc
    obtain ⟨hc1, rfl⟩ := hc
    obtain ⟨hm1, rfl⟩ := hm
    have la2 := la.put hk hck s3 c
    have ec : ∀ q : Nat, q ∉ [18, 19, 20, 21] → putS S b t x y z q = S q := fun q hq => putS.k hq
    have em : ∀ q : Nat, q ≠ 5 ∧ q ≠ 6 → layM M b t x y z q = M q := fun q hq => layM.k hq
    have e01 : layM M b t x y z 0 = M 0 := em 0 (by decide)
    refine ⟨?_, ⟨by rw [ec 1 (by decide), e01]; exact s1, by rw [ec 2 (by decide), em 1 (by decide)]; exact s2, by rw [ec 3 (by decide), em 2 (by decide)]; exact s3, by rw [ec 4 (by decide), em 4 (by decide)]; exact s4, by rw [ec 5 (by decide), em 3 (by decide)]; exact s5⟩, hk.eq (by rw [e01]) (em 1 (by decide)) (em 2 (by decide)) (em 3 (by decide)) (em 4 (by decide)), ⟨ms.eq (by rw [e01]) (em 1 (by decide)) (em 2 (by decide)) (em 4 (by decide)) (em 7 (by decide)) (em 11 (by decide)) (em 12 (by decide)) (em 13 (by decide)), cs.eq (fun q hq => ec q (by revert hq; revert q; decide))⟩, se.eq (fun q hq => ec q (by revert hq; revert q; decide)) ⟨by rw [e01], by rw [e01], by rw [e01], by rw [e01]⟩ (fun q hq => em q (by revert hq; revert q; decide)), la2, du.eq (fun q hq => ec q (by revert hq; revert q; decide)) ⟨by rw [e01], by rw [e01]⟩ (fun q hq => em q (by revert hq; revert q; decide))⟩
    rw [hc1, hm1]
    exact la2.ovl (by rw [e01]; exact hk.1)
  · rw [if_neg c] at hm
    rw [if_neg (fun q => c (e.mp q))] at hc
    rw [hc.1, hm.1, hc.2, hm.2]; exact ⟨rfl, h⟩
theorem REL.lift (h : REL S M) {b : Int} (hc : if 0 ≤ b ∧ b < S 1 4 then (if zbit (S 18 4) b then v = 0 ∧ S' = up2 S 18 4 (zandn (S 18 4) (1 * 2 ^ b.toNat)) else v = -2 ∧ S' = S) else v = -1 ∧ S' = S) (hm : if 0 ≤ b ∧ b < M 0 1 then (if M 5 b = 0 then u = -2 ∧ M' = M else u = 0 ∧ M' = up2 M 5 b 0) else u = -1 ∧ M' = M) : v = u ∧ REL S' M' := by
  obtain ⟨⟨s1, s2, s3, s4, s5⟩, hk, ⟨ms, cs⟩, se, la, du⟩ := id h
  have hn := hk.1
  rw [s1] at hc
  by_cases c : 0 ≤ b ∧ b < M 0 1
  · rw [if_pos c] at hc hm
    by_cases z : zbit (S 18 4) b
    · rw [if_pos z] at hc
      rw [if_neg (fun q => (la.z (b := b) (by omega)).mpr q z)] at hm
      obtain ⟨hc1, rfl⟩ := hc
      obtain ⟨hm1, rfl⟩ := hm
      have ec : ∀ q : Nat, q ≠ 18 → up2 S 18 4 (zandn (S 18 4) (1 * 2 ^ b.toNat)) q = S q := fun q hq => up2_k _ _ _ hq
      have em : ∀ q : Nat, q ≠ 5 → up2 M 5 b 0 q = M q := fun q hq => up2_k _ _ _ hq
      refine ⟨by rw [hc1, hm1], ⟨s1, s2, s3, s4, s5⟩, hk.eq rfl rfl rfl rfl rfl, ⟨ms.eq rfl rfl rfl rfl rfl rfl rfl rfl, cs.eq (fun q hq => ec q (by revert hq; revert q; decide))⟩, se.eq (fun q hq => ec q (by revert hq; revert q; decide)) ⟨rfl, rfl, rfl, rfl⟩ (fun q hq => em q (by revert hq; revert q; decide)), ?_, du.eq (fun q hq => ec q (by revert hq; revert q; decide)) ⟨rfl, rfl⟩ (fun q hq => em q (by revert hq; revert q; decide))⟩
      obtain ⟨⟨k1, k2, k3⟩, l2, l3, l4, l5⟩ := la
      have c5 : up2 M 5 b 0 5 = fset (M 5) b 0 := up2_s _ _ _ _
      have zl := zandn_le (a := S 18 4) (b := 1 * 2 ^ b.toNat) l3.1.1
      have z0 := zandn_nn (S 18 4) (1 * 2 ^ b.toNat)
      have hl3 := l3.1
      refine ⟨⟨fun d d1 d2 => ?_, k2, fun d d1 d2 => ?_⟩, fun d d1 d2 d3 => ?_, ⟨by rw [up2_eq]; omega, l3.2⟩, ⟨by rw [up2_eq]; omega, fun j hj => ?_⟩, fun d d1 d2 => ?_⟩
      · rw [c5]; unfold fset; split
        · omega
        · exact k1 d d1 d2
      · rw [c5]; unfold fset; split
        · rfl
        · exact k3 d d1 d2
      · rw [c5] at d3
        by_cases e : d = b
        · subst e; rw [fset_e] at d3; omega
        · rw [fset_n _ _ e] at d3
          show pplace (M 0 1) (M 1) (M 2) (M 4) d (up2 M 5 b 0 5 d - 1) (M 6 (d * 3)) (M 6 (d * 3 + 1)) (M 6 (d * 3 + 2))
          rw [c5, fset_n _ _ e]; exact l2 d d1 d2 d3
      · rw [up2_eq, zbit_zandn l3.1.1 c.1 hj, l4.2 j hj, c5]
        show (j < M 0 1 ∧ 0 < M 5 j) ∧ j ≠ b ↔ j < M 0 1 ∧ 0 < fset (M 5) b 0 j
        by_cases e : j = b
        · subst e; rw [fset_e]
          exact ⟨fun q => absurd rfl q.2, fun q => by omega⟩
        · rw [fset_n _ _ e]
          exact ⟨fun q => q.1, fun q => ⟨q, e⟩⟩
      · rw [up2_eq, zbit_zandn l3.1.1 c.1 d1] at d2
        have q := l5 d d1 d2.1
        refine ⟨?_, fun x x1 x2 => ?_⟩
        · show S 19 d = up2 M 5 b 0 5 d - 1
          rw [c5, fset_n _ _ d2.2]; exact q.1
        · have w := q.2 x x1 x2
          rw [men_at _ ⟨x1, x2⟩] at w ⊢
          show S 20 (d * 3 + x) = M 6 (d * 3 + x) ∧ S 21 (d * 3 + x) = M 6 (d * 3 + x) + pext (M 2) d (up2 M 5 b 0 5 d - 1) x
          rw [c5, fset_n _ _ d2.2]; exact w
    · rw [if_neg z] at hc
      rw [if_pos ((la.z (b := b) (by omega)).mp z)] at hm
      rw [hc.1, hm.1, hc.2, hm.2]; exact ⟨rfl, h⟩
  · rw [if_neg c] at hc hm
    rw [hc.1, hm.1, hc.2, hm.2]; exact ⟨rfl, h⟩
end Rn
theorem isOrd.surj {vol : Int → Int} : ∀ (k : Nat) {g : Int → Int}, isOrd vol k g → ∀ b : Int, 0 ≤ b → b < k → ∃ e : Int, (0 ≤ e ∧ e < k) ∧ g e = b
  | 0, _, _, b, h1, h2 => by omega
  | k + 1, g, ⟨f, hf, p, p1, p2, p3, p4, p5, p6⟩, b, h1, h2 => by
    by_cases c : b = k
    · exact ⟨p, by omega, by rw [p3, c]⟩
    · obtain ⟨e, e1, e2⟩ := isOrd.surj k hf b h1 (by omega)
      by_cases d : e < p
      · exact ⟨e, by omega, by rw [p2 e e1.1 d]; exact e2⟩
      · exact ⟨e + 1, by omega, by rw [p4 (e + 1) (by omega) (by omega), show e + 1 - 1 = e by omega]; exact e2⟩
section Rp
variable {S M S' M' : jMem} {v u : Int}
theorem REL.plH (h : REL S M) (h15 : S 6 15 = 1) : plH S := by
  have se := h.2.2.2.1.2
  have e1 : M 0 7 = 1 := se.1.1.symm.trans h15
  intro e e1' e2
  exact ⟨_, (se.2.2.2 e1 e e1' e2).1⟩
theorem REL.plan (h : REL S M) (hc : if S 6 15 = 1 then v = S 1 4 ∧ plC S (S 1 4) S' else v = -2 ∧ S' = S) (hm : if M 0 7 = 1 then u = M 0 1 ∧ plM M (M 0 1) M' else u = -2 ∧ M' = M) : v = u ∧ REL S' M' := by
  have hord := fun d a b => REL.ord h (d := d) ⟨a, b⟩
  have hck := h.ck
  obtain ⟨⟨s1, s2, s3, s4, s5⟩, hk, ⟨ms, cs⟩, se, la, du⟩ := id h
  have e15 : S 6 15 = M 0 7 := se.2.1.1
  rw [e15] at hc
  by_cases c : M 0 7 = 1
  · rw [if_pos c] at hc hm
    obtain ⟨hc1, c1, c2, c3, c4⟩ := hc
    obtain ⟨hm1, m1, m2, m3⟩ := hm
    have hn := hk.1
    rw [s1] at c3 c4
    -- the ways on both sides
    have key : ∀ e, 0 ≤ e → e < M 0 1 → (0 ≤ M 7 e ∧ M 7 e < M 0 1) ∧ isWay (M 0 1) (M 1) (M 2) (M 4) (M 7 e) (M 8 e - 1) (M 9 (M 7 e)) (M 10 (3 * M 7 e)) (M 10 (3 * M 7 e + 1)) (M 10 (3 * M 7 e + 2)) ∧ (S 9 e = M 9 (M 7 e) ∧ S 12 (e * 3) = M 10 (3 * M 7 e) ∧ S 12 (e * 3 + 1) = M 10 (3 * M 7 e + 1) ∧ S 12 (e * 3 + 2) = M 10 (3 * M 7 e + 2)) := fun e a1 a2 => by
      have hb := ord_in hk ms (d := e) ⟨a1, a2⟩
      have hd : M 0 8 = M 0 1 := se.1.2.2.2.1 c
      have w2 := se.1.2.2.2.2.1 e a1 (by show e < M 0 8; rw [hd]; exact a2)
      have w1 := (se.2.2.2.2 c e a1 (by rw [s1]; exact a2)).1
      rw [s1, s2, s3, s4, hord e a1 a2] at w1
      exact ⟨hb, w2, isWay.uniq hk (by omega) w1 w2⟩
    have keyb : ∀ b, 0 ≤ b → b < M 0 1 → ∃ e, (0 ≤ e ∧ e < M 0 1) ∧ M 7 e = b := fun b b1 b2 => by
      obtain ⟨e, e1, e2⟩ := isOrd.surj _ ms.1 b b1 (by omega)
      exact ⟨e, by omega, e2⟩
    have way : ∀ b, 0 ≤ b → b < M 0 1 → ∃ w, isWay (M 0 1) (M 1) (M 2) (M 4) b w (M 9 b) (M 10 (3 * b)) (M 10 (3 * b + 1)) (M 10 (3 * b + 2)) := fun b b1 b2 => by
      obtain ⟨e, e1, rfl⟩ := keyb b b1 b2
      exact ⟨_, (key e e1.1 e1.2).2.1⟩
    have n5 : ∀ b, 0 ≤ b → b < M 0 1 → M' 5 b = M 9 b + 1 := fun b b1 b2 => by rw [m2 b, if_pos ⟨b1, b2⟩]
    have n6 : ∀ i, 0 ≤ i → i < 3 * M 0 1 → M' 6 i = M 10 i := fun i i1 i2 => by rw [m3 i, if_pos ⟨i1, i2⟩]
    have k1 : M' 0 = M 0 := m1 0 (by decide)
    have l0 := hk.2.1 0 (by omega) (by omega)
    have l1 := hk.2.1 1 (by omega) (by omega)
    have l2 := hk.2.1 2 (by omega) (by omega)
    have la2 : laR S' M' := by
      obtain ⟨⟨g1, g2, g3⟩, -, -, g5, -⟩ := la
      refine ⟨⟨fun b b1 b2 => ?_, fun i i1 i2 => ?_, fun b b1 b2 => ?_⟩, fun b b1 b2 b3 => ?_, c2, ⟨c2.1, fun j hj => ?_⟩, fun b b1 b2 => ?_⟩
      · by_cases q : b < M 0 1
        · obtain ⟨w, hw⟩ := way b b1 q
          rw [n5 b b1 q]
          have := hw.1; omega
        · rw [m2 b, if_neg (by omega)]; exact g1 b b1 b2
      · by_cases q : i < 3 * M 0 1
        · rw [n6 i i1 q]
          obtain ⟨w, hw⟩ := way (i / 3) (by omega) (by omega)
          obtain ⟨-, i0, j1, j2⟩ := isWay.in hk (by omega) hw
          have x0 := pext_in hk (b := i / 3) (t := M 9 (i / 3)) (a := 0) (by omega) (by omega)
          have x1 := pext_in hk (b := i / 3) (t := M 9 (i / 3)) (a := 1) (by omega) (by omega)
          have x2 := pext_in hk (b := i / 3) (t := M 9 (i / 3)) (a := 2) (by omega) (by omega)
          rcases (show i = 3 * (i / 3) ∨ i = 3 * (i / 3) + 1 ∨ i = 3 * (i / 3) + 2 by omega) with e | e | e
          · rw [e]; omega
          · rw [e]; omega
          · rw [e]; omega
        · rw [m3 i, if_neg (by omega)]; exact g2 i i1 i2
      · rw [k1] at b1
        rw [m2 b, if_neg (by omega)]; exact g3 b b1 b2
      · rw [k1] at b2
        obtain ⟨w, hw⟩ := way b b1 b2
        obtain ⟨hf, i0, i1, i2⟩ := isWay.in hk (by omega) hw
        rw [k1, m1 1 (by decide), m1 2 (by decide), m1 4 (by decide), n5 b b1 b2, n6 (b * 3) (by omega) (by omega), n6 (b * 3 + 1) (by omega) (by omega), n6 (b * 3 + 2) (by omega) (by omega), show M 9 b + 1 - 1 = M 9 b by omega, Int.mul_comm b 3]
        exact ⟨⟨b1, b2⟩, hw.1, hf.1, i0, i1, i2⟩
      · rw [c3 j hj, k1]
        constructor
        · rintro (q | ⟨e, e1, e2⟩)
          · have q2 := (g5.2 j hj).mp q
            refine ⟨q2.1, ?_⟩
            obtain ⟨w, hw⟩ := way j hj q2.1
            rw [n5 j hj q2.1]; have := hw.1; omega
          · rw [hord e e1.1 e1.2] at e2
            have kb := (key e e1.1 e1.2).1
            rw [e2] at kb
            refine ⟨kb.2, ?_⟩
            obtain ⟨w, hw⟩ := way j hj kb.2
            rw [n5 j hj kb.2]; have := hw.1; omega
        · rintro ⟨q1, q2⟩
          obtain ⟨e, e1, e2⟩ := keyb j hj q1
          exact Or.inr ⟨e, e1, (hord e e1.1 e1.2).trans e2⟩
      · have hbn : b < M 0 1 := by
          rcases (c3 b b1).mp b2 with q | ⟨e, e1, e2⟩
          · exact ((g5.2 b b1).mp q).1
          · rw [hord e e1.1 e1.2] at e2
            have kb := (key e e1.1 e1.2).1
            omega
        obtain ⟨e, e1, rfl⟩ := keyb b b1 hbn
        have q := c4 e e1.1 e1.2
        obtain ⟨q1, ⟨q2, q3, q4⟩, q5, q6, q7⟩ := q
        obtain ⟨kb, kw, ks1, ks2, ks3, ks4⟩ := key e e1.1 e1.2
        rw [hord e e1.1 e1.2] at q1 q2 q3 q4 q5 q6 q7
        rw [ks1, s3] at q5 q6 q7
        rw [ks2] at q2 q5
        rw [ks3] at q3 q6
        rw [ks4] at q4 q7
        rw [ks1] at q1
        have t0 : M' 6 (M 7 e * 3) = M 10 (3 * M 7 e) := by rw [n6 _ (by omega) (by omega), Int.mul_comm]
        have t1 : M' 6 (M 7 e * 3 + 1) = M 10 (3 * M 7 e + 1) := by rw [n6 _ (by omega) (by omega), Int.mul_comm]
        have t2 : M' 6 (M 7 e * 3 + 2) = M 10 (3 * M 7 e + 2) := by rw [n6 _ (by omega) (by omega), Int.mul_comm]
        have t5 : M' 5 (M 7 e) - 1 = M 9 (M 7 e) := by rw [n5 _ kb.1 kb.2]; omega
        refine ⟨by rw [q1, t5], three ?_ ?_ ?_⟩
        · rw [men_at _ (by omega), Int.add_zero, t5, t0, m1 2 (by decide)]; exact ⟨q2, q5⟩
        · rw [men_at _ (by omega), t5, t1, m1 2 (by decide)]; exact ⟨q3, q6⟩
        · rw [men_at _ (by omega), t5, t2, m1 2 (by decide)]; exact ⟨q4, q7⟩
    refine ⟨by rw [hc1, hm1, s1], ⟨by rw [c1 1 (by decide), k1]; exact s1, by rw [c1 2 (by decide), m1 1 (by decide)]; exact s2, by rw [c1 3 (by decide), m1 2 (by decide)]; exact s3, by rw [c1 4 (by decide), m1 4 (by decide)]; exact s4, by rw [c1 5 (by decide), m1 3 (by decide)]; exact s5⟩, hk.eq (by rw [k1]) (m1 1 (by decide)) (m1 2 (by decide)) (m1 3 (by decide)) (m1 4 (by decide)), ⟨ms.eq (by rw [k1]) (m1 1 (by decide)) (m1 2 (by decide)) (m1 4 (by decide)) (m1 7 (by decide)) (m1 11 (by decide)) (m1 12 (by decide)) (m1 13 (by decide)), cs.eq (fun q hq => c1 q (by revert hq; revert q; decide))⟩, se.eq (fun q hq => c1 q (by revert hq; revert q; decide)) ⟨by rw [k1], by rw [k1], by rw [k1], by rw [k1]⟩ (fun q hq => m1 q (by revert hq; revert q; decide)), la2, du.eq (fun q hq => c1 q (by revert hq; revert q; decide)) ⟨by rw [k1], by rw [k1]⟩ (fun q hq => m1 q (by revert hq; revert q; decide))⟩
  · rw [if_neg c] at hc hm
    rw [hc.1, hm.1, hc.2, hm.2]; exact ⟨rfl, h⟩
end Rp
/-! trees over the same places -/
def sbt (m x : Int) : Prop := 0 ≤ x ∧ ∀ j, 0 ≤ j → zbit x j → zbit m j
theorem isCut.eq {bg en bg' en' : Int → Int} {m s a p : Int} (ha : 0 ≤ a ∧ a < 3) (hs : sbt m s) (e : ∀ b, 0 ≤ b → zbit m b → ∀ x, 0 ≤ x → x < 3 → bg (b * 3 + x) = bg' (b * 3 + x) ∧ en (b * 3 + x) = en' (b * 3 + x)) (h : isCut bg en s a p) : isCut bg' en' s a p := by
  obtain ⟨h1, ⟨k, k1, k2, k3⟩, ⟨j, j1, j2, j3⟩⟩ := h
  refine ⟨fun q q1 q2 q3 => ?_, ⟨k, k1, k2, ?_⟩, ⟨j, j1, j2, ?_⟩⟩
  · have w := e q q1 (hs.2 q q1 q3) a ha.1 ha.2
    rw [← w.1, ← w.2]; exact h1 q q1 q2 q3
  · rw [← (e k k1.1 (hs.2 k k1.1 k2) a ha.1 ha.2).2]; exact k3
  · rw [← (e j j1.1 (hs.2 j j1.1 j2) a ha.1 ha.2).2]; exact j3
theorem tstep.eq {bg en bg' en' : Int → Int} {m : Int} (e : ∀ b, 0 ≤ b → zbit m b → ∀ x, 0 ≤ x → x < 3 → bg (b * 3 + x) = bg' (b * 3 + x) ∧ en (b * 3 + x) = en' (b * 3 + x)) {s s' : tst} (hs : ∀ x ∈ s.1, sbt m x) (h : tstep bg en s s') : tstep bg' en' s s' ∧ ∀ x ∈ s'.1, sbt m x := by
  have e' : ∀ b, 0 ≤ b → zbit m b → ∀ x, 0 ≤ x → x < 3 → bg' (b * 3 + x) = bg (b * 3 + x) ∧ en' (b * 3 + x) = en (b * 3 + x) := fun b b1 b2 x x1 x2 => ⟨(e b b1 b2 x x1 x2).1.symm, (e b b1 b2 x x1 x2).2.symm⟩
  obtain ⟨x, R, ex, h⟩ := h
  have hx := hs x (by rw [ex]; exact List.mem_cons_self)
  have hR : ∀ y ∈ R, sbt m y := fun y hy => hs y (by rw [ex]; exact List.mem_cons_of_mem _ hy)
  rcases h with ⟨l, l1, l2, rfl⟩ | ⟨h0, a, p, b, h1, h2, rfl⟩ | ⟨h0, h1, rfl⟩
  · exact ⟨⟨x, R, ex, Or.inl ⟨l, l1, l2, rfl⟩⟩, hR⟩
  · refine ⟨⟨x, R, ex, Or.inr (Or.inl ⟨h0, a, p, b, ⟨h1.1, isCut.eq h1.1 hx e h1.2.1, fun a' p' a1 a2 a3 q => h1.2.2 a' p' a1 a2 a3 (isCut.eq ⟨a1, a2⟩ hx e' q)⟩, ⟨h2.1, fun j hj => ?_⟩, rfl⟩)⟩, fun y hy => ?_⟩
    · rw [h2.2 j hj]
      constructor
      · rintro ⟨q1, q2⟩
        exact ⟨q1, by rw [← (e j hj (hx.2 j hj q1) a h1.1.1 h1.1.2).2]; exact q2⟩
      · rintro ⟨q1, q2⟩
        exact ⟨q1, by rw [(e j hj (hx.2 j hj q1) a h1.1.1 h1.1.2).2]; exact q2⟩
    · rcases List.mem_cons.mp hy with q | hy
      · subst q; exact ⟨h2.1, fun j hj q => hx.2 j hj ((h2.2 j hj).mp q).1⟩
      · rcases List.mem_cons.mp hy with q | hy
        · subst q; exact ⟨zandn_nn _ _, fun j hj q => hx.2 j hj ((zbit_andn hx.1 h2.1).mp q).1⟩
        · exact hR y hy
  · exact ⟨⟨x, R, ex, Or.inr (Or.inr ⟨h0, fun a p a1 a2 q => h1 a p a1 a2 (isCut.eq ⟨a1, a2⟩ hx e' q), rfl⟩)⟩, fun y hy => by cases hy⟩
theorem tEnd.eq {bg en bg' en' : Int → Int} {m : Int} (e : ∀ b, 0 ≤ b → zbit m b → ∀ x, 0 ≤ x → x < 3 → bg (b * 3 + x) = bg' (b * 3 + x) ∧ en (b * 3 + x) = en' (b * 3 + x)) {s s' : tst} (hs : ∀ x ∈ s.1, sbt m x) (h : tEnd bg en s s') : tEnd bg' en' s s' := by
  obtain ⟨k, h⟩ := h
  refine ⟨k, ?_⟩
  induction k generalizing s with
  | zero => exact h
  | succ k ih =>
    obtain ⟨s1, h1, h2⟩ := h
    obtain ⟨g1, g2⟩ := tstep.eq e hs h1
    exact ⟨s1, g1, ih g2 h2⟩
theorem tinit_sbt {m : Int} (hm : 0 ≤ m) : ∀ x ∈ (tinit m).1, sbt m x := fun x hx => by
  unfold tinit at hx
  by_cases c : m = 0
  · rw [if_pos c] at hx; cases hx
  · rw [if_neg c] at hx
    rcases List.mem_cons.mp hx with q | q
    · subst q; exact ⟨hm, fun j _ q => q⟩
    · cases q
section Rt
variable {S M S' M' : jMem} {v u : Int}
theorem REL.cso (h : REL S M) : S 18 4 ≠ 0 → csOK S (S 18 4) := fun h0 => by
  have la := h.2.2.2.2.1
  have hk := h.2.1
  refine ⟨by have := la.2.2.2.1.1; omega, fun j hj q a a1 a2 => ?_⟩
  have w := (la.2.2.2.2 j hj q).2 a a1 a2
  have b := (la.2.2.2.1.2 j hj).mp q
  have p := la.2.1.men hk (b := j) (x := a) ⟨hj, b.1⟩ b.2 ⟨a1, a2⟩
  have l := hk.2.1 a a1 a2
  rw [w.1, w.2]; omega
theorem REL.tk (h : REL S M) (hc : keeps [23, 24] S S') (hm : keeps [0, 14, 15, 16, 17, 18, 19, 20] M M') (h0 : ∀ j, j ≠ 21 → M' 0 j = M 0 j) : REL S' M' := by
  obtain ⟨⟨s1, s2, s3, s4, s5⟩, hk, ⟨ms, cs⟩, se, la, du⟩ := h
  exact ⟨⟨by rw [hc 1 (by decide), h0 1 (by decide)]; exact s1, by rw [hc 2 (by decide), hm 1 (by decide)]; exact s2, by rw [hc 3 (by decide), hm 2 (by decide)]; exact s3, by rw [hc 4 (by decide), hm 4 (by decide)]; exact s4, by rw [hc 5 (by decide), hm 3 (by decide)]; exact s5⟩, hk.eq (h0 1 (by decide)) (hm 1 (by decide)) (hm 2 (by decide)) (hm 3 (by decide)) (hm 4 (by decide)), ⟨ms.eq (h0 1 (by decide)) (hm 1 (by decide)) (hm 2 (by decide)) (hm 4 (by decide)) (hm 7 (by decide)) (hm 11 (by decide)) (hm 12 (by decide)) (hm 13 (by decide)), cs.eq (fun q hq => hc q (by revert hq; revert q; decide))⟩, se.eq (fun q hq => hc q (by revert hq; revert q; decide)) ⟨h0 1 (by decide), h0 7 (by decide), h0 8 (by decide), h0 9 (by decide)⟩ (fun q hq => hm q (by revert hq; revert q; decide)), la.eq ⟨by rw [hc 18 (by decide)], hc 19 (by decide), hc 20 (by decide), hc 21 (by decide)⟩ (h0 1 (by decide)) ⟨hm 1 (by decide), hm 2 (by decide), hm 4 (by decide), hm 5 (by decide), hm 6 (by decide)⟩, du.eq (fun q hq => hc q (by revert hq; revert q; decide)) ⟨h0 1 (by decide), h0 25 (by decide)⟩ (fun q hq => hm q (by revert hq; revert q; decide))⟩
theorem REL.ends (h : REL S M) {c d : Int} (hc : cuEnd S (S 18 4) c S') (hm : plEnd M (S 18 4) d M') : c = d ∧ REL S' M' ∧ ∀ k, 0 ≤ k → k < c → S' 23 (k * 4) = M' 14 k ∧ S' 23 (k * 4 + 1) = M' 15 k ∧ S' 23 (k * 4 + 2) = M' 16 k ∧ S' 23 (k * 4 + 3) = M' 17 k := by
  obtain ⟨X, c1, c2, c3, c4, c5⟩ := hc
  obtain ⟨Y, d1, d2, d3, d4, d5, d6⟩ := hm
  have la := h.2.2.2.2.1
  have c1' := tEnd.eq (bg' := M 6) (en' := men M) (m := S 18 4) (fun b b1 b2 x x1 x2 => (la.2.2.2.2 b b1 b2).2 x x1 x2) (tinit_sbt la.2.2.1.1.1) c1
  have e := c1'.uniq d1
  subst e
  refine ⟨by rw [c2, d2], h.tk c5 d5 d6, fun k k1 k2 => ?_⟩
  obtain ⟨a1, a2, a3, a4⟩ := c4 k k1 k2
  obtain ⟨b1, b2, b3, b4⟩ := d4 k k1 (by rw [d2, ← c2]; exact k2)
  exact ⟨a1.trans b1.symm, a2.trans b2.symm, a3.trans b3.symm, a4.trans b4.symm⟩
theorem REL.tree (h : REL S M) (hc : if 0 < povs (S 18 4) (S 20) (S 21) then v = -2 ∧ S' = S else cuEnd S (S 18 4) v S') (hm : if 0 < movs M then u = -2 ∧ M' = M else plEnd M (S 18 4) u M') : v = u ∧ REL S' M' := by
  rw [h.2.2.2.2.1.ovl h.2.1.1] at hc
  by_cases c : 0 < movs M
  · rw [if_pos c] at hc hm
    rw [hc.1, hm.1, hc.2, hm.2]; exact ⟨rfl, h⟩
  · rw [if_neg c] at hc hm
    obtain ⟨e, r, -⟩ := h.ends hc hm
    exact ⟨e, r⟩
theorem REL.node (h : REL S M) {k w : Int} (hc : ndC S k w v S') (hm : ndA M (S 18 4) k w u M') : v = u ∧ REL S' M' := by
  unfold ndC at hc
  unfold ndA at hm
  rw [h.2.2.2.2.1.ovl h.2.1.1] at hc
  by_cases c0 : (0 ≤ k ∧ k ≤ 14) ∧ (0 ≤ w ∧ w ≤ 3)
  · rw [if_pos c0] at hc hm
    by_cases c : 0 < movs M
    · rw [if_pos c] at hc hm
      rw [hc.1, hm.1, hc.2, hm.2]; exact ⟨rfl, h⟩
    · rw [if_neg c] at hc hm
      obtain ⟨n1, e1, f1⟩ := hc
      obtain ⟨n2, e2, f2⟩ := hm
      obtain ⟨e, r, g⟩ := h.ends e1 e2
      subst e
      refine ⟨?_, r⟩
      rcases f1 with ⟨a1, a2⟩ | ⟨a1, a2⟩
      · rcases f2 with ⟨b1, b2⟩ | ⟨b1, b2⟩
        · rw [a2, b2]
        · omega
      · rcases f2 with ⟨b1, b2⟩ | ⟨b1, b2⟩
        · omega
        · obtain ⟨g0, g1, g2, g3⟩ := g k c0.1.1 a1
          rw [a2, b2]
          rcases (show w = 0 ∨ w = 1 ∨ w = 2 ∨ w = 3 by omega) with q | q | q | q
          · subst q; rw [if_pos rfl, Int.add_zero]; exact g0
          · subst q; rw [if_neg (by decide), if_pos rfl]; exact g1
          · subst q; rw [if_neg (by decide), if_neg (by decide), if_pos rfl]; exact g2
          · subst q; rw [if_neg (by decide), if_neg (by decide), if_neg (by decide)]; exact g3
  · rw [if_neg c0] at hc hm
    rw [hc.1, hm.1, hc.2, hm.2]; exact ⟨rfl, h⟩
theorem REL.need (h : REL S M) {n0 n1 n2 w : Int} (hc : if (0 ≤ n0 ∧ n0 ≤ S 2 0 / 2 * 2) ∧ (0 ≤ n1 ∧ n1 ≤ S 2 1 / 2 * 2) ∧ (0 ≤ n2 ∧ n2 ≤ S 2 2 / 2 * 2) ∧ (0 ≤ w ∧ w ≤ 1) then (if w = 1 then phas3 (S 2) n0 n1 n2 else pneed (S 1 4) (S 2) (S 3) (S 4) n0 n1 n2 (pall (S 1 4))) = v ∧ cNd S S' else v = -1 ∧ S' = S) (hm : (if (0 ≤ n0 ∧ n0 ≤ M 1 0 / 2 * 2) ∧ (0 ≤ n1 ∧ n1 ≤ M 1 1 / 2 * 2) ∧ (0 ≤ n2 ∧ n2 ≤ M 1 2 / 2 * 2) ∧ (0 ≤ w ∧ w ≤ 1) then (if w = 1 then phas3 (M 1) n0 n1 n2 else pneed (M 0 1) (M 1) (M 2) (M 4) n0 n1 n2 255) else -1) = u ∧ M = M') : v = u ∧ REL S' M' := by
  obtain ⟨⟨s1, s2, s3, s4, s5⟩, hk, ⟨ms, cs⟩, se, la, du⟩ := id h
  obtain ⟨hm1, rfl⟩ := hm
  rw [s1, s2, s3, s4] at hc
  by_cases c : (0 ≤ n0 ∧ n0 ≤ M 1 0 / 2 * 2) ∧ (0 ≤ n1 ∧ n1 ≤ M 1 1 / 2 * 2) ∧ (0 ≤ n2 ∧ n2 ≤ M 1 2 / 2 * 2) ∧ (0 ≤ w ∧ w ≤ 1)
  · rw [if_pos c] at hc hm1
    obtain ⟨hc1, k, ⟨k8, kd⟩, k9⟩ := hc
    rw [pneed_255 hk.1] at hm1
    refine ⟨by rw [← hc1, ← hm1], ⟨by rw [k 1 (by decide)]; exact s1, by rw [k 2 (by decide)]; exact s2, by rw [k 3 (by decide)]; exact s3, by rw [k 4 (by decide)]; exact s4, by rw [k 5 (by decide)]; exact s5⟩, hk, ⟨ms, cs.eq (fun q hq => k q (by revert hq; revert q; decide))⟩, se.eq (fun q hq => k q (by revert hq; revert q; decide)) ⟨rfl, rfl, rfl, rfl⟩ (fun _ _ => rfl), la.eq ⟨by rw [k 18 (by decide)], k 19 (by decide), k 20 (by decide), k 21 (by decide)⟩ rfl ⟨rfl, rfl, rfl, rfl, rfl⟩, Or.inr ⟨k8, kd⟩, ?_, du.2.2⟩
    rw [k9, k 1 (by decide), k 2 (by decide), k 3 (by decide), k 4 (by decide), k 26 (by decide)]; exact du.2.1
  · rw [if_neg c] at hc hm1
    rw [hc.1, ← hm1, hc.2]; exact ⟨rfl, h⟩
theorem REL.proof (h : REL S M) {w : Int} (hc : if 0 ≤ w ∧ w ≤ 3 then (keeps [25, 26, 27, 28, 29, 30, 31] S S' ∧ (S' 25 8 = 0 ∨ (S' 25 8 = 1 ∧ dOK S')) ∧ S' 25 9 = 1 ∧ isProof (S' 1 4) (S' 2) (S' 3) (S' 4) (S' 26)) ∧ v = S' 26 w else v = -1 ∧ S' = S) (hm : if 0 ≤ w ∧ w ≤ 3 then keeps [0, 21] M M' ∧ (∀ j, M' 0 j = if j = 25 then 1 else M 0 j) ∧ isProof (M 0 1) (M 1) (M 2) (M 4) (M' 21) ∧ u = M' 21 w else u = -1 ∧ M' = M) : v = u ∧ REL S' M' := by
  obtain ⟨⟨s1, s2, s3, s4, s5⟩, hk, ⟨ms, cs⟩, se, la, du⟩ := id h
  by_cases c : 0 ≤ w ∧ w ≤ 3
  · rw [if_pos c] at hc hm
    obtain ⟨⟨k, k8, k9, kp⟩, hv⟩ := hc
    obtain ⟨m1, m0, mp, hu⟩ := hm
    have z : ∀ j, j ≠ 25 → M' 0 j = M 0 j := fun j hj => by rw [m0 j, if_neg hj]
    have kp2 := kp
    rw [k 1 (by decide), k 2 (by decide), k 3 (by decide), k 4 (by decide), s1, s2, s3, s4] at kp2
    obtain ⟨g0, g1, g2, g3⟩ := kp2.uniq mp
    refine ⟨?_, ⟨by rw [k 1 (by decide), z 1 (by decide)]; exact s1, by rw [k 2 (by decide), m1 1 (by decide)]; exact s2, by rw [k 3 (by decide), m1 2 (by decide)]; exact s3, by rw [k 4 (by decide), m1 4 (by decide)]; exact s4, by rw [k 5 (by decide), m1 3 (by decide)]; exact s5⟩, hk.eq (z 1 (by decide)) (m1 1 (by decide)) (m1 2 (by decide)) (m1 3 (by decide)) (m1 4 (by decide)), ⟨ms.eq (z 1 (by decide)) (m1 1 (by decide)) (m1 2 (by decide)) (m1 4 (by decide)) (m1 7 (by decide)) (m1 11 (by decide)) (m1 12 (by decide)) (m1 13 (by decide)), cs.eq (fun q hq => k q (by revert hq; revert q; decide))⟩, se.eq (fun q hq => k q (by revert hq; revert q; decide)) ⟨z 1 (by decide), z 7 (by decide), z 8 (by decide), z 9 (by decide)⟩ (fun q hq => m1 q (by revert hq; revert q; decide)), la.eq ⟨by rw [k 18 (by decide)], k 19 (by decide), k 20 (by decide), k 21 (by decide)⟩ (z 1 (by decide)) ⟨m1 1 (by decide), m1 2 (by decide), m1 4 (by decide), m1 5 (by decide), m1 6 (by decide)⟩, k8, Or.inr ⟨k9, kp⟩, Or.inr ⟨by rw [m0 25, if_pos rfl], ?_⟩⟩
    · rw [hv, hu]
      rcases (show w = 0 ∨ w = 1 ∨ w = 2 ∨ w = 3 by omega) with q | q | q | q
      · rw [q]; exact g0
      · rw [q]; exact g1
      · rw [q]; exact g2
      · rw [q]; exact g3
    · rw [z 1 (by decide), m1 1 (by decide), m1 2 (by decide), m1 4 (by decide)]; exact mp
  · rw [if_neg c] at hc hm
    rw [hc.1, hm.1, hc.2, hm.2]; exact ⟨rfl, h⟩
end Rt
