/-- what is laid lies in the bin -/
def mlP (S : jMem) : Prop := ∀ b, 0 ≤ b → b < S 0 1 → 0 < S 5 b → pplace (S 0 1) (S 1) (S 2) (S 4) b (S 5 b - 1) (S 6 (b * 3)) (S 6 (b * 3 + 1)) (S 6 (b * 3 + 2))
theorem mlP.men {S : jMem} (hk : mOK S) (h : mlP S) {b x : Int} (hb : 0 ≤ b ∧ b < S 0 1) (h5 : 0 < S 5 b) (hx : 0 ≤ x ∧ x < 3) : S 6 (b * 3 + x) < men S (b * 3 + x) ∧ (0 ≤ S 6 (b * 3 + x) ∧ men S (b * 3 + x) ≤ S 1 x) := by
  have h1 := h b hb.1 hb.2 h5
  have h2 := pext_pos hk (b := b) (t := S 5 b - 1) (a := x) hb.1 hb.2
  rw [men_at S hx]
  obtain ⟨-, -, -, p0, p1, p2⟩ := h1
  rcases (show x = 0 ∨ x = 1 ∨ x = 2 by omega) with e | e | e
  · subst e; rw [Int.add_zero]; omega
  · subst e; omega
  · subst e; omega
theorem isCut.in {S : jMem} (hk : mOK S) (h : mlP S) {s a p : Int} (hs : stOK S s) (ha : 0 ≤ a ∧ a < 3) (hc : isCut (S 6) (men S) s a p) : 1 ≤ p ∧ p < S 1 a := by
  obtain ⟨-, ⟨k, k1, k2, k3⟩, ⟨j, j1, j2, j3⟩⟩ := hc
  have hk2 := hs.2 k k1.1 k2
  have hj2 := hs.2 j j1.1 j2
  have m1 := h.men hk (b := k) (x := a) (by omega) hk2.2 ha
  have m2 := h.men hk (b := j) (x := a) (by omega) hj2.2 ha
  omega
/-- of those below k in a set: who ends at p or before -/
def beI (S : jMem) (s a p k x : Int) : Prop := (0 ≤ x ∧ x < 256) ∧ (∀ j, 0 ≤ j → (zbit x j ↔ j < k ∧ zbit s j ∧ men S (j * 3 + a) ≤ p)) ∧ ∀ j, 0 ≤ j → j < k → zbit s j → men S (j * 3 + a) ≤ p ∨ p ≤ S 6 (j * 3 + a)
theorem beI.skip {S : jMem} {s a p k x : Int} (h : beI S s a p k x) (hb : ¬ zbit s k) : beI S s a p (k + 1) x := by
  refine ⟨h.1, fun j hj => (h.2.1 j hj).trans ⟨fun q => ⟨by omega, q.2⟩, fun q => ⟨?_, q.2⟩⟩, fun j h1 h2 h3 => h.2.2 j h1 ?_ h3⟩
  · by_cases e : j = k
    · subst e; exact absurd q.2.1 hb
    · omega
  · by_cases e : j = k
    · subst e; exact absurd h3 hb
    · omega
theorem beI.on {S : jMem} {s a p k x : Int} (h : beI S s a p k x) (hk : 0 ≤ k ∧ k < 8) (hb : zbit s k) (he : men S (k * 3 + a) ≤ p) : beI S s a p (k + 1) (zor x (1 * 2 ^ k.toNat)) := by
  refine ⟨⟨zor_nn _ _, zor_lt (k := 8) h.1.1 h.1.2 (zpow_lt (k := 8) hk.1 hk.2).2⟩, fun j hj => ?_, fun j h1 h2 h3 => ?_⟩
  · rw [zbit_zor h.1.1 hk.1 hj, h.2.1 j hj]
    constructor
    · rintro (q | q)
      · exact ⟨by omega, q.2⟩
      · subst q; exact ⟨by omega, hb, he⟩
    · intro q
      by_cases e : j = k
      · exact Or.inr e
      · exact Or.inl ⟨by omega, q.2⟩
  · by_cases e : j = k
    · subst e; exact Or.inl he
    · exact h.2.2 j h1 (by omega) h3
theorem beI.off {S : jMem} {s a p k x : Int} (h : beI S s a p k x) (he : ¬ men S (k * 3 + a) ≤ p) (hg : p ≤ S 6 (k * 3 + a)) : beI S s a p (k + 1) x := by
  refine ⟨h.1, fun j hj => (h.2.1 j hj).trans ⟨fun q => ⟨by omega, q.2⟩, fun q => ⟨?_, q.2⟩⟩, fun j h1 h2 h3 => ?_⟩
  · by_cases e : j = k
    · subst e; exact absurd q.2.2 he
    · omega
  · by_cases e : j = k
    · subst e; exact Or.inr hg
    · exact h.2.2 j h1 (by omega) h3
/-- the answer of before -/
def befA (S : jMem) (s a p v : Int) : Prop := (isCut (S 6) (men S) s a p ∧ 0 < v ∧ v < 256 ∧ isBef (men S) s a p v) ∨ (¬ isCut (S 6) (men S) s a p ∧ v = 0)
theorem beI.done {S : jMem} {s a p k x : Int} (h : beI S s a p k x) (hs : stOK S s) (hk : S 0 1 ≤ k) (hn : S 0 1 ≤ 8) : (x = s → befA S s a p 0) ∧ (x ≠ s → befA S s a p x) := by
  have hb : isBef (men S) s a p x := ⟨h.1.1, fun j hj => (h.2.1 j hj).trans ⟨fun q => q.2, fun q => ⟨by have := hs.2 j hj q.1; omega, q⟩⟩⟩
  have hi : ∀ j, 0 ≤ j → j < 8 → zbit s j → men S (j * 3 + a) ≤ p ∨ p ≤ S 6 (j * 3 + a) := fun j h1 h2 h3 => h.2.2 j h1 (by have := hs.2 j h1 h3; omega) h3
  have s0 : 0 ≤ s := by have := hs.1; omega
  refine ⟨fun e => Or.inr ⟨fun hc => ?_, rfl⟩, fun ne => ?_⟩
  · obtain ⟨-, -, ⟨j, j1, j2, j3⟩⟩ := hc
    rw [← e] at j2
    have := ((hb.2 j j1.1).mp j2).2
    omega
  · by_cases z : x = 0
    · right
      refine ⟨fun hc => ?_, z⟩
      obtain ⟨-, ⟨j, j1, j2, j3⟩, -⟩ := hc
      have := (hb.2 j j1.1).mpr ⟨j2, j3⟩
      rw [z] at this
      exact zbit_0 j this
    · left
      have hx := h.1
      obtain ⟨l, hl⟩ := isLow.ex (x := x) (by omega)
      have l8 := hl.lt (k := 8) hx.1 (by show x < 256; exact hx.2)
      have hlb := (hb.2 l hl.1).mp hl.2.1
      refine ⟨⟨hi, ⟨l, ⟨hl.1, by omega⟩, hlb⟩, ?_⟩, by omega, hx.2, hb⟩
      refine Classical.byContradiction (fun hno => ne (zbit_ext hx.1 s0 (fun j hj => ?_)))
      rw [hb.2 j hj]
      refine ⟨fun q => q.1, fun q => ⟨q, ?_⟩⟩
      have := hs.2 j hj q
      rcases Int.lt_or_le p (men S (j * 3 + a)) with c | c
      · exact absurd ⟨j, ⟨hj, by omega⟩, q, c⟩ hno
      · exact c
theorem befA.no {S : jMem} {s a p k : Int} (hs : zbit s k) (hk : 0 ≤ k ∧ k < 8) (he : ¬ men S (k * 3 + a) ≤ p) (hg : ¬ p ≤ S 6 (k * 3 + a)) : befA S s a p 0 := Or.inr ⟨fun hc => (hc.1 k hk.1 hk.2 hs).elim he hg, rfl⟩
theorem fst_lt {x l k : Int} (hl : isLow x l) (hk : 0 ≤ k ∧ k ≤ l) (h : x / 2 ^ k.toNat % 2 = 0) : k + 1 ≤ l := by
  by_cases e : k = l
  · subst e
    have h2 : x / 2 ^ k.toNat % 2 = 1 := hl.2.1
    omega
  · omega
theorem fst_eq {x l k : Int} (hl : isLow x l) (hk : 0 ≤ k ∧ k ≤ l) (h : ¬ x / 2 ^ k.toNat % 2 = 0) : l = k := by
  by_cases e : k = l
  · exact e.symm
  · exact absurd (show zbit x k by show x / 2 ^ k.toNat % 2 = 1; omega) (hl.2.2 k hk.1 (by omega))
theorem lm_first1 {E : jEnv} {G : jG} (hG : mG G) (C : jX E G cX6_firstOf 2 RX6 0 0) (S : jMem) (x l : Int) (hx : 0 < x ∧ x < 256) (hl : isLow x l) (R : jR E G (some .int) (jPi (fun v S' => l = v ∧ S = S'))) : ∀ (mm : Nat) (k : Int), mm = (8 - k).toNat → (0 ≤ k ∧ k ≤ l) → J E G 2 [(0, .int (iI (x))), (1, .int (iI (k)))] [] S := by
  intro mm
  induction mm using Nat.strongRecOn with | ind mm ih => ?_
  intro k hm hk
  have h8 := hl.lt (k := 8) (by omega) (by show x < 256; omega)
  have hd := zdiv_in (x := x) (by omega) k.toNat
  refine J_iload_n C 0 dX6_firstOf_2 rfl ?_
  refine J_iload_n C 1 dX6_firstOf_3 rfl ?_
  refine J_ishr C dX6_firstOf_4 (by omega) (by omega) (by omega) ?_
  refine J_iconst C dX6_firstOf_5 ?_
  refine J_iand C (((x) / 2 ^ (k : Int).toNat) % 2) dX6_firstOf_6 (iI_and1 _ (by omega)) ?_
  refine J_if_ne C 16 dX6_firstOf_7 (by decide) (by omega) (fun h1 => ?_) (fun h1 => ?_)
  · refine J_iload_n C 1 dX6_firstOf_16 rfl ?_
    exact J_iret R C dX6_firstOf_17 (jPi.mk ⟨by exact fst_eq hl hk (by omega), rfl⟩)
  · refine J_iinc (lv' := [(1, .int (iI (k + 1))), (0, .int (iI (x)))]) C 1 dX6_firstOf_10 rfl (by decide) rfl ?_
    refine J_goto C 2 dX6_firstOf_13 (by decide) ?_
    refine J_lv [1, 0] rfl ?_
    have hk2 := fst_lt hl hk (by omega)
    exact ih _ (by omega) (k + 1) rfl (by omega)
theorem m_firstOf {G : jG} (hG : mG G) (S : jMem) (x l : Int) (hx : 0 < x ∧ x < 256) (hl : isLow x l) : jM G yX6_firstOf cX6_firstOf 2 (some .int) 0 0 [.int (iI (x))] S (jPi (fun v S' => l = v ∧ S = S')) := by
  refine jM.of (by decide) (Nat.le_of_ble_eq_true rfl) (fun E C R => ?_)
  show J E G 0 [(0, .int (iI (x)))] [] _
  refine J_iconst C dX6_firstOf_0 ?_
  refine J_istore_n (lv' := [(1, .int (iI (0))), (0, .int (iI (x)))]) C dX6_firstOf_1 (by decide) rfl ?_
  refine J_lv [1, 0] rfl ?_
  exact lm_first1 hG C S x l hx hl R _ 0 rfl ⟨by omega, hl.1⟩
theorem lm_before {E : jEnv} {G : jG} (hG : mG G) (C : jX E G cX6_before 6 RX6 3 67) (S : jMem) (s a p : Int) (hk : mOK S) (hl : mlOK S) (hs : stOK S s) (ha : 0 ≤ a ∧ a < 3) (hp : 0 ≤ p ∧ p ≤ 20) (R : jR E G (some .int) (jPi (fun v S' => befA S s a p v ∧ S = S'))) : ∀ (mm : Nat) (x k : Int), mm = (S 0 1 - k).toNat → ((0 ≤ k ∧ k ≤ S 0 1) ∧ beI S s a p k x) → J E G 6 [(0, .ref (jad G 0)), (1, .int (iI (s))), (2, .int (iI (a))), (3, .int (iI (p))), (4, .int (iI (x))), (5, .int (iI (k)))] [] S := by
  intro mm
  induction mm using Nat.strongRecOn with | ind mm ih => ?_
  intro x k hm hi
  obtain ⟨hk0, hj⟩ := hi
  have hn := hk.1
  have hx := hj.1
  have hs1 := hs.1
  have hd := zdiv_in (x := s) (by omega) k.toNat
  refine J_iload C 5 dX6_before_6 rfl ?_
  refine J_aload_n C 0 dX6_before_8 rfl ?_
  refine g_X6_81 hG C dX6_before_9 ?_
  refine J_icmp_ge C 67 dX6_before_12 (by decide) (by omega) (by omega) (fun h1 => ?_) (fun h1 => ?_)
  · refine J_iload C 4 dX6_before_67 rfl ?_
    refine J_iload_n C 1 dX6_before_69 rfl ?_
    refine J_icmp_ne C 77 dX6_before_70 (by decide) (by omega) (by omega) (fun h2 => ?_) (fun h2 => ?_)
    · refine J_iload C 4 dX6_before_77 rfl ?_
      exact J_iret R C dX6_before_79 (jPi.mk ⟨(hj.done hs (by omega) (by omega)).2 (by assumption), rfl⟩)
    · refine J_iconst C dX6_before_73 ?_
      refine J_goto C 79 dX6_before_74 (by decide) ?_
      exact J_iret R C dX6_before_79 (jPi.mk ⟨(hj.done hs (by omega) (by omega)).1 (by assumption), rfl⟩)
  · refine J_iload_n C 1 dX6_before_15 rfl ?_
    refine J_iload C 5 dX6_before_16 rfl ?_
    refine J_ishr C dX6_before_18 (by omega) (by omega) (by omega) ?_
    refine J_iconst C dX6_before_19 ?_
    refine J_iand C (((s) / 2 ^ (k : Int).toNat) % 2) dX6_before_20 (iI_and1 _ (by omega)) ?_
    refine J_iconst C dX6_before_21 ?_
    refine J_icmp_ne C 61 dX6_before_22 (by decide) (by omega) (by omega) (fun h3 => ?_) (fun h3 => ?_)
    · refine J_iinc (lv' := [(5, .int (iI (k + 1))), (0, .ref (jad G 0)), (1, .int (iI (s))), (2, .int (iI (a))), (3, .int (iI (p))), (4, .int (iI (x)))]) C 5 dX6_before_61 rfl (by decide) rfl ?_
      refine J_goto C 6 dX6_before_64 (by decide) ?_
      refine J_lv [1, 2, 3, 4, 5, 0] rfl ?_
      first | exact ih _ (by omega) _ (k + 1) rfl ⟨by omega, hj.off (by omega) (by omega)⟩ | exact ih _ (by omega) _ (k + 1) rfl ⟨by omega, hj.skip (fun q => by have q2 : s / 2 ^ k.toNat % 2 = 1 := q; omega)⟩
    · have hbz : zbit s k := by show s / 2 ^ k.toNat % 2 = 1; omega
      have hs5 := hs.2 k hk0.1 hbz
      have h56 := hl.1 k (by omega) (by omega)
      refine J_aload_n C 0 dX6_before_25 rfl ?_
      refine J_iload C 5 dX6_before_26 rfl ?_
      refine J_iload_n C 2 dX6_before_28 rfl ?_
      refine J_callV (k := 0) (rest := []) C (m_end hG S (k) (a) (by omega) (by omega) (by omega)) kc_X6_end kl_X6_165 (by rw [hG.2]; decide) (by rw [hG.1]; rfl) rfl dX6_before_29 rfl rfl (by decide) (Nat.le_of_ble_eq_true rfl) (J_ki (fun v4 S4 h4 => ?_))
      obtain ⟨rfl, rfl⟩ := h4
      have q1 := men_in hk hl (b := k) (x := a) (by omega) (by omega)
      refine J_iload_n C 3 dX6_before_32 rfl ?_
      refine J_icmp_gt C 48 dX6_before_33 (by decide) (by omega) (by omega) (fun h5 => ?_) (fun h5 => ?_)
      · refine J_aload_n C 0 dX6_before_48 rfl ?_
        refine J_iload C 5 dX6_before_49 rfl ?_
        refine J_iload_n C 2 dX6_before_51 rfl ?_
        refine J_callV (k := 0) (rest := []) C (m_begin hG S (k) (a) (by omega) (by omega)) kc_X6_begin kl_X6_162 (by rw [hG.2]; decide) (by rw [hG.1]; rfl) rfl dX6_before_52 rfl rfl (by decide) (Nat.le_of_ble_eq_true rfl) (J_ki (fun v6 S6 h6 => ?_))
        obtain ⟨rfl, rfl⟩ := h6
        have q2 := hl.2.1 (k * 3 + a) (by omega) (by omega)
        refine J_iload_n C 3 dX6_before_55 rfl ?_
        refine J_icmp_ge C 61 dX6_before_56 (by decide) (by omega) (by omega) (fun h7 => ?_) (fun h7 => ?_)
        · refine J_iinc (lv' := [(5, .int (iI (k + 1))), (0, .ref (jad G 0)), (1, .int (iI (s))), (2, .int (iI (a))), (3, .int (iI (p))), (4, .int (iI (x)))]) C 5 dX6_before_61 rfl (by decide) rfl ?_
          refine J_goto C 6 dX6_before_64 (by decide) ?_
          refine J_lv [1, 2, 3, 4, 5, 0] rfl ?_
          first | exact ih _ (by omega) _ (k + 1) rfl ⟨by omega, hj.off (by omega) (by omega)⟩ | exact ih _ (by omega) _ (k + 1) rfl ⟨by omega, hj.skip (fun q => by have q2 : s / 2 ^ k.toNat % 2 = 1 := q; omega)⟩
        · refine J_iconst C dX6_before_59 ?_
          exact J_iret R C dX6_before_60 (jPi.mk ⟨befA.no hbz (by omega) (by omega) (by omega), rfl⟩)
      · refine J_iload C 4 dX6_before_36 rfl ?_
        have hpw := zpow_in (b := k) (by omega) (by omega)
        refine J_iconst C dX6_before_38 ?_
        refine J_iload C 5 dX6_before_39 rfl ?_
        refine J_ishl C dX6_before_41 (by omega) (by omega) ?_
        refine J_ior C (zor (x) ((1) * 2 ^ (k).toNat)) dX6_before_42 (iI_zor (by omega) (by omega) (by omega) (by omega)) ?_
        refine J_istore (lv' := [(4, .int (iI (zor (x) ((1) * 2 ^ (k).toNat)))), (0, .ref (jad G 0)), (1, .int (iI (s))), (2, .int (iI (a))), (3, .int (iI (p))), (5, .int (iI (k)))]) C dX6_before_43 (by decide) rfl ?_
        refine J_goto C 61 dX6_before_45 (by decide) ?_
        refine J_iinc (lv' := [(5, .int (iI (k + 1))), (4, .int (iI (zor (x) ((1) * 2 ^ (k).toNat)))), (0, .ref (jad G 0)), (1, .int (iI (s))), (2, .int (iI (a))), (3, .int (iI (p)))]) C 5 dX6_before_61 rfl (by decide) rfl ?_
        refine J_goto C 6 dX6_before_64 (by decide) ?_
        refine J_lv [2, 3, 4, 5, 1, 0] rfl ?_
        exact ih _ (by omega) _ (k + 1) rfl ⟨by omega, hj.on (by omega) hbz (by omega)⟩
theorem m_before {G : jG} (hG : mG G) (S : jMem) (s a p : Int) (hk : mOK S) (hl : mlOK S) (hs : stOK S s) (ha : 0 ≤ a ∧ a < 3) (hp : 0 ≤ p ∧ p ≤ 20) : jM G yX6_before cX6_before 6 (some .int) 3 67 [.ref (jad G 0), .int (iI (s)), .int (iI (a)), .int (iI (p))] S (jPi (fun v S' => befA S s a p v ∧ S = S')) := by
  refine jM.of (by decide) (Nat.le_of_ble_eq_true rfl) (fun E C R => ?_)
  show J E G 0 [(0, .ref (jad G 0)), (1, .int (iI (s))), (2, .int (iI (a))), (3, .int (iI (p)))] [] _
  have hn := hk.1
  refine J_iconst C dX6_before_0 ?_
  refine J_istore (lv' := [(4, .int (iI (0))), (0, .ref (jad G 0)), (1, .int (iI (s))), (2, .int (iI (a))), (3, .int (iI (p)))]) C dX6_before_1 (by decide) rfl ?_
  refine J_iconst C dX6_before_3 ?_
  refine J_istore (lv' := [(5, .int (iI (0))), (4, .int (iI (0))), (0, .ref (jad G 0)), (1, .int (iI (s))), (2, .int (iI (a))), (3, .int (iI (p)))]) C dX6_before_4 (by decide) rfl ?_
  refine J_lv [2, 3, 4, 5, 1, 0] rfl ?_
  exact lm_before hG C S s a p hk hl hs ha hp R _ 0 0 rfl ⟨by omega, by omega, fun j hj => ⟨fun q => absurd q (zbit_0 j), fun q => by omega⟩, fun j h1 h2 => by omega⟩
def cutA (S : jMem) (s v : Int) : Prop := (∃ a p, fcut (S 6) (men S) s a p ∧ v = 32 * a + p ∧ 1 ≤ p ∧ p < S 1 a) ∨ (nocut (S 6) (men S) s ∧ v = -9)
def cuI (S : jMem) (s a p : Int) : Prop := ∀ a' p', 0 ≤ a' → a' < 3 → (a' < a ∨ (a' = a ∧ p' < p)) → ¬ isCut (S 6) (men S) s a' p'
theorem cuI.p {S : jMem} {s a p : Int} (h : cuI S s a p) (hn : ¬ isCut (S 6) (men S) s a p) : cuI S s a (p + 1) := fun a' p' h1 h2 h3 => by
  by_cases e : a' = a ∧ p' = p
  · rw [e.1, e.2]; exact hn
  · exact h a' p' h1 h2 (by omega)
theorem cuI.a {S : jMem} (hk : mOK S) (hq : mlP S) {s a p : Int} (hs : stOK S s) (h : cuI S s a p) (ha : 0 ≤ a ∧ a < 3) (hp : S 1 a ≤ p) : cuI S s (a + 1) 1 := fun a' p' h1 h2 h3 hc => by
  have hin := isCut.in hk hq hs ⟨h1, h2⟩ hc
  by_cases e : a' < a
  · exact h a' p' h1 h2 (Or.inl e) hc
  · have e2 : a' = a := by omega
    subst e2
    exact h a' p' h1 h2 (by omega) hc
theorem befA.yes {S : jMem} {s a p v : Int} (h : befA S s a p v) (hv : 0 < v) : isCut (S 6) (men S) s a p ∧ isBef (men S) s a p v := by
  rcases h with q | q
  · exact ⟨q.1, q.2.2.2⟩
  · omega
theorem befA.not {S : jMem} {s a p v : Int} (h : befA S s a p v) (hv : ¬ 0 < v) : ¬ isCut (S 6) (men S) s a p := by
  rcases h with q | q
  · omega
  · exact q.1
theorem lm_cutp {E : jEnv} {G : jG} (hG : mG G) (C : jX E G cX6_cutOf 4 RX6 4 92) (S : jMem) (s a : Int) (hk : mOK S) (hl : mlOK S) (hq : mlP S) (hs : stOK S s) (ha : 0 ≤ a ∧ a < 3) (R : jR E G (some .int) (jPi (fun v S' => cutA S s v ∧ S = S'))) : ∀ (mm : Nat) (p : Int), mm = (21 - p).toNat → ((1 ≤ p ∧ p ≤ 20) ∧ cuI S s a p) → (cuI S s (a + 1) 1 → J E G 42 [(0, .ref (jad G 0)), (1, .int (iI s)), (2, .int (iI a))] [] S) → J E G 9 [(0, .ref (jad G 0)), (1, .int (iI (s))), (2, .int (iI (a))), (3, .int (iI (p)))] [] S := by
  intro mm
  induction mm using Nat.strongRecOn with | ind mm ih => ?_
  intro p hm hi K
  obtain ⟨hp, hj⟩ := hi
  have hL := hk.2.1 a (by omega) (by omega)
  refine J_iload_n C 3 dX6_cutOf_9 rfl ?_
  refine J_aload_n C 0 dX6_cutOf_10 rfl ?_
  refine g_X6_7 hG C dX6_cutOf_11 ?_
  refine J_iload_n C 2 dX6_cutOf_14 rfl ?_
  refine mald hG C 1 3 (by decide) dX6_cutOf_15 (by omega) (by omega) ?_
  refine J_icmp_ge C 42 dX6_cutOf_16 (by decide) (by omega) (by omega) (fun h1 => ?_) (fun h1 => ?_)
  · refine J_lv [0, 1, 2] rfl ?_
    exact K (cuI.a hk hq hs hj ha (by omega))
  · refine J_aload_n C 0 dX6_cutOf_19 rfl ?_
    refine J_iload_n C 1 dX6_cutOf_20 rfl ?_
    refine J_iload_n C 2 dX6_cutOf_21 rfl ?_
    refine J_iload_n C 3 dX6_cutOf_22 rfl ?_
    refine J_callV (k := 0) (rest := []) C (m_before hG S (s) (a) (p) hk hl hs (by omega) (by omega)) kc_X6_before kl_X6_183 (by rw [hG.2]; decide) (by rw [hG.1]; rfl) rfl dX6_cutOf_23 rfl rfl (by decide) (Nat.le_of_ble_eq_true rfl) (J_ki (fun v2 S2 h2 => ?_))
    obtain ⟨hbf, rfl⟩ := h2
    have hv0 : 0 ≤ v2 ∧ v2 < 256 := by rcases hbf with q | q <;> omega
    refine J_if_le C 36 dX6_cutOf_26 (by decide) (by omega) (fun h3 => ?_) (fun h3 => ?_)
    · refine J_iinc (lv' := [(3, .int (iI (p + 1))), (0, .ref (jad G 0)), (1, .int (iI (s))), (2, .int (iI (a)))]) C 3 dX6_cutOf_36 rfl (by decide) rfl ?_
      refine J_goto C 9 dX6_cutOf_39 (by decide) ?_
      refine J_lv [1, 2, 3, 0] rfl ?_
      exact ih _ (by omega) (p + 1) rfl ⟨by omega, hj.p (hbf.not (by omega))⟩ K
    · refine J_bipush C dX6_cutOf_29 (by decide) ?_
      refine J_iload_n C 2 dX6_cutOf_31 rfl ?_
      refine J_imul C dX6_cutOf_32 ?_
      refine J_iload_n C 3 dX6_cutOf_33 rfl ?_
      refine J_iadd C dX6_cutOf_34 ?_
      exact J_iret R C dX6_cutOf_35 (jPi.mk ⟨Or.inl ⟨a, p, ⟨ha, (hbf.yes (by omega)).1, hj⟩, rfl, by omega, by omega⟩, rfl⟩)
theorem lm_cuta {E : jEnv} {G : jG} (hG : mG G) (C : jX E G cX6_cutOf 4 RX6 4 92) (S : jMem) (s : Int) (hk : mOK S) (hl : mlOK S) (hq : mlP S) (hs : stOK S s) (R : jR E G (some .int) (jPi (fun v S' => cutA S s v ∧ S = S'))) : ∀ (mm : Nat) (a : Int), mm = (3 - a).toNat → ((0 ≤ a ∧ a ≤ 3) ∧ cuI S s a 1) → J E G 2 [(0, .ref (jad G 0)), (1, .int (iI (s))), (2, .int (iI (a)))] [] S := by
  intro mm
  induction mm using Nat.strongRecOn with | ind mm ih => ?_
  intro a hm hi
  obtain ⟨ha, hj⟩ := hi
  refine J_iload_n C 2 dX6_cutOf_2 rfl ?_
  refine J_iconst C dX6_cutOf_3 ?_
  refine J_icmp_ge C 48 dX6_cutOf_4 (by decide) (by omega) (by omega) (fun h1 => ?_) (fun h1 => ?_)
  · refine J_bipush C dX6_cutOf_48 (by decide) ?_
    exact J_iret R C dX6_cutOf_50 (jPi.mk ⟨Or.inr ⟨fun a1 p1 h1 h2 => hj a1 p1 h1 h2 (Or.inl (by omega)), rfl⟩, rfl⟩)
  · refine J_iconst C dX6_cutOf_7 ?_
    refine J_istore_n (lv' := [(3, .int (iI (1))), (0, .ref (jad G 0)), (1, .int (iI (s))), (2, .int (iI (a)))]) C dX6_cutOf_8 (by decide) rfl ?_
    refine J_lv [1, 2, 3, 0] rfl ?_
    refine lm_cutp hG C S s a hk hl hq hs (by omega) R _ 1 rfl ⟨by omega, hj⟩ (fun hj2 => ?_)
    refine J_iinc (lv' := [(2, .int (iI (a + 1))), (0, .ref (jad G 0)), (1, .int (iI s))]) C 2 dX6_cutOf_42 rfl (by decide) rfl ?_
    refine J_goto C 2 dX6_cutOf_45 (by decide) ?_
    refine J_lv [1, 2, 0] rfl ?_
    exact ih _ (by omega) (a + 1) rfl ⟨by omega, hj2⟩
theorem m_cutOf {G : jG} (hG : mG G) (S : jMem) (s : Int) (hk : mOK S) (hl : mlOK S) (hq : mlP S) (hs : stOK S s) : jM G yX6_cutOf cX6_cutOf 4 (some .int) 4 92 [.ref (jad G 0), .int (iI (s))] S (jPi (fun v S' => cutA S s v ∧ S = S')) := by
  refine jM.of (by decide) (Nat.le_of_ble_eq_true rfl) (fun E C R => ?_)
  show J E G 0 [(0, .ref (jad G 0)), (1, .int (iI (s)))] [] _
  refine J_iconst C dX6_cutOf_0 ?_
  refine J_istore_n (lv' := [(2, .int (iI (0))), (0, .ref (jad G 0)), (1, .int (iI (s)))]) C dX6_cutOf_1 (by decide) rfl ?_
  refine J_lv [1, 2, 0] rfl ?_
  refine lm_cuta hG C S s hk hl hq hs R _ 0 rfl ⟨by omega, fun a1 p1 h1 h2 h3 hc => ?_⟩
  have := isCut.in hk hq hs ⟨h1, h2⟩ hc
  omega
