theorem c_max {G : jG} (hG : cG G) (S : jMem) (a b : Int) (ha : inR a) (hb : inR b) : jM G yJ9_max_7cf53 cJ9_max_7cf53 2 (some .int) 0 0 [.int (iI (a)), .int (iI (b))] S (jPi (fun v S' => max a b = v ∧ S = S')) := by
  refine jM.ofF (by decide +kernel) (Nat.le_of_ble_eq_true rfl) (fun E C R => ?_)
  show J E G 0 [(0, .int (iI (a))), (1, .int (iI (b)))] [] _
  refine J_iload_n C 0 dJ9_max_7cf53_0 rfl ?_
  refine J_iload_n C 1 dJ9_max_7cf53_1 rfl ?_
  refine J_icmp_lt C 9 dJ9_max_7cf53_2 (by decide) (by omega) (by omega) (fun h1 => ?_) (fun h1 => ?_)
  · refine J_iload_n C 1 dJ9_max_7cf53_9 rfl ?_
    exact J_iret R C dJ9_max_7cf53_10 (jPi.mk ⟨by omega, rfl⟩)
  · refine J_iload_n C 0 dJ9_max_7cf53_5 rfl ?_
    refine J_goto C 10 dJ9_max_7cf53_6 (by decide) ?_
    exact J_iret R C dJ9_max_7cf53_10 (jPi.mk ⟨by omega, rfl⟩)
theorem c_min {G : jG} (hG : cG G) (S : jMem) (a b : Int) (ha : inR a) (hb : inR b) : jM G yJ9_min_7cf53 cJ9_min_7cf53 2 (some .int) 0 0 [.int (iI (a)), .int (iI (b))] S (jPi (fun v S' => min a b = v ∧ S = S')) := by
  refine jM.ofF (by decide +kernel) (Nat.le_of_ble_eq_true rfl) (fun E C R => ?_)
  show J E G 0 [(0, .int (iI (a))), (1, .int (iI (b)))] [] _
  refine J_iload_n C 0 dJ9_min_7cf53_0 rfl ?_
  refine J_iload_n C 1 dJ9_min_7cf53_1 rfl ?_
  refine J_icmp_gt C 9 dJ9_min_7cf53_2 (by decide) (by omega) (by omega) (fun h1 => ?_) (fun h1 => ?_)
  · refine J_iload_n C 1 dJ9_min_7cf53_9 rfl ?_
    exact J_iret R C dJ9_min_7cf53_10 (jPi.mk ⟨by omega, rfl⟩)
  · refine J_iload_n C 0 dJ9_min_7cf53_5 rfl ?_
    refine J_goto C 10 dJ9_min_7cf53_6 (by decide) ?_
    exact J_iret R C dJ9_min_7cf53_10 (jPi.mk ⟨by omega, rfl⟩)
theorem c_isBox {G : jG} (hG : cG G) (S : jMem) (b : Int) (hn : 0 ≤ S 1 4 ∧ S 1 4 ≤ 8) (hb : inR b) : jM G yX4_isBox cX4_isBox 2 (some .boolean) 0 0 [.ref (jad G 1), .int (iI (b))] S (jPi (fun v S' => bb (0 ≤ b ∧ b < S 1 4) = v ∧ S = S')) := by
  refine jM.of (by decide) (Nat.le_of_ble_eq_true rfl) (fun E C R => ?_)
  show J E G 0 [(0, .ref (jad G 1)), (1, .int (iI (b)))] [] _
  refine J_iload_n C 1 dX4_isBox_0 rfl ?_
  refine J_if_lt C 16 dX4_isBox_1 (by decide) (by omega) (fun h1 => ?_) (fun h1 => ?_)
  · refine J_iconst C dX4_isBox_16 ?_
    exact J_zret R C dX4_isBox_17 (by first | exact Or.inl rfl | exact Or.inr rfl | omega) (jPi.mk ⟨by first | exact bb_t (by omega) | exact bb_f (by omega), rfl⟩)
  · refine J_iload_n C 1 dX4_isBox_4 rfl ?_
    refine J_aload_n C 0 dX4_isBox_5 rfl ?_
    refine g_X4_24 hG C dX4_isBox_6 ?_
    refine J_icmp_ge C 16 dX4_isBox_9 (by decide) (by omega) (by omega) (fun h2 => ?_) (fun h2 => ?_)
    · refine J_iconst C dX4_isBox_16 ?_
      exact J_zret R C dX4_isBox_17 (by first | exact Or.inl rfl | exact Or.inr rfl | omega) (jPi.mk ⟨by first | exact bb_t (by omega) | exact bb_f (by omega), rfl⟩)
    · refine J_iconst C dX4_isBox_12 ?_
      refine J_goto C 17 dX4_isBox_13 (by decide) ?_
      exact J_zret R C dX4_isBox_17 (by first | exact Or.inl rfl | exact Or.inr rfl | omega) (jPi.mk ⟨by first | exact bb_t (by omega) | exact bb_f (by omega), rfl⟩)
theorem c_allBoxes {G : jG} (hG : cG G) (S : jMem) (hn : 0 ≤ S 1 4 ∧ S 1 4 ≤ 8) : jM G yX4_allBoxes cX4_allBoxes 1 (some .int) 0 0 [.ref (jad G 1)] S (jPi (fun v S' => 1 * 2 ^ (S 1 4).toNat - 1 = v ∧ S = S')) := by
  refine jM.of (by decide) (Nat.le_of_ble_eq_true rfl) (fun E C R => ?_)
  show J E G 0 [(0, .ref (jad G 1))] [] _
  refine J_iconst C dX4_allBoxes_0 ?_
  refine J_aload_n C 0 dX4_allBoxes_1 rfl ?_
  refine g_X4_24 hG C dX4_allBoxes_2 ?_
  refine J_ishl C dX4_allBoxes_5 (by omega) (by omega) ?_
  refine J_iconst C dX4_allBoxes_6 ?_
  refine J_isub C dX4_allBoxes_7 ?_
  exact J_iret R C dX4_allBoxes_8 (jPi.mk ⟨by rfl, rfl⟩)
theorem c_extent {G : jG} (hG : cG G) (S : jMem) (b t a : Int) (hb : 0 ≤ b ∧ b < 8) (ht : 0 ≤ t ∧ t < 6) (ha : 0 ≤ a ∧ a < 3) : jM G yX4_extent cX4_extent 4 (some .int) 0 0 [.ref (jad G 1), .int (iI (b)), .int (iI (t)), .int (iI (a))] S (jPi (fun v S' => pext (S 3) b t a = v ∧ S = S')) := by
  refine jM.of (by decide) (Nat.le_of_ble_eq_true rfl) (fun E C R => ?_)
  show J E G 0 [(0, .ref (jad G 1)), (1, .int (iI (b))), (2, .int (iI (t))), (3, .int (iI (a)))] [] _
  have hs := sd_in (t * 3 + a)
  refine J_aload_n C 0 dX4_extent_0 rfl ?_
  refine g_X4_15 hG C dX4_extent_1 ?_
  refine J_iload_n C 1 dX4_extent_4 rfl ?_
  refine J_iconst C dX4_extent_5 ?_
  refine J_imul C dX4_extent_6 ?_
  refine J_gets C kf_X4_28 dX4_extent_7 ?_
  refine J_iload_n C 2 dX4_extent_10 rfl ?_
  refine J_iconst C dX4_extent_11 ?_
  refine J_imul C dX4_extent_12 ?_
  refine J_iload_n C 3 dX4_extent_13 rfl ?_
  refine J_iadd C dX4_extent_14 ?_
  refine J_tld C (by omega) (by omega) dX4_extent_15 ?_
  refine J_iadd C dX4_extent_16 ?_
  refine cald hG C 3 24 (by decide) dX4_extent_17 (by omega) (by omega) ?_
  exact J_iret R C dX4_extent_18 (jPi.mk ⟨by rfl, rfl⟩)
theorem c_volume {G : jG} (hG : cG G) (S : jMem) (b : Int) (hb : 0 ≤ b ∧ b < 8) : jM G yX4_volume cX4_volume 2 (some .int) 0 0 [.ref (jad G 1), .int (iI (b))] S (jPi (fun v S' => S 3 (b * 3) * S 3 (b * 3 + 1) * S 3 (b * 3 + 2) = v ∧ S = S')) := by
  refine jM.of (by decide) (Nat.le_of_ble_eq_true rfl) (fun E C R => ?_)
  show J E G 0 [(0, .ref (jad G 1)), (1, .int (iI (b)))] [] _
  refine J_aload_n C 0 dX4_volume_0 rfl ?_
  refine g_X4_15 hG C dX4_volume_1 ?_
  refine J_iload_n C 1 dX4_volume_4 rfl ?_
  refine J_iconst C dX4_volume_5 ?_
  refine J_imul C dX4_volume_6 ?_
  refine cald hG C 3 24 (by decide) dX4_volume_7 (by omega) (by omega) ?_
  refine J_aload_n C 0 dX4_volume_8 rfl ?_
  refine g_X4_15 hG C dX4_volume_9 ?_
  refine J_iload_n C 1 dX4_volume_12 rfl ?_
  refine J_iconst C dX4_volume_13 ?_
  refine J_imul C dX4_volume_14 ?_
  refine J_iconst C dX4_volume_15 ?_
  refine J_iadd C dX4_volume_16 ?_
  refine cald hG C 3 24 (by decide) dX4_volume_17 (by omega) (by omega) ?_
  refine J_imul C dX4_volume_18 ?_
  refine J_aload_n C 0 dX4_volume_19 rfl ?_
  refine g_X4_15 hG C dX4_volume_20 ?_
  refine J_iload_n C 1 dX4_volume_23 rfl ?_
  refine J_iconst C dX4_volume_24 ?_
  refine J_imul C dX4_volume_25 ?_
  refine J_iconst C dX4_volume_26 ?_
  refine J_iadd C dX4_volume_27 ?_
  refine cald hG C 3 24 (by decide) dX4_volume_28 (by omega) (by omega) ?_
  refine J_imul C dX4_volume_29 ?_
  exact J_iret R C dX4_volume_30 (jPi.mk ⟨by rfl, rfl⟩)
theorem c_hasTurn {G : jG} (hG : cG G) (S : jMem) (b t : Int) (hk : cOK S) (hb : 0 ≤ b ∧ b < 8) (ht : 0 ≤ t ∧ t < 6) : jM G yX4_hasTurn cX4_hasTurn 3 (some .boolean) 0 0 [.ref (jad G 1), .int (iI (b)), .int (iI (t))] S (jPi (fun v S' => bb (phas (S 4) b t) = v ∧ S = S')) := by
  refine jM.of (by decide) (Nat.le_of_ble_eq_true rfl) (fun E C R => ?_)
  show J E G 0 [(0, .ref (jad G 1)), (1, .int (iI (b))), (2, .int (iI (t)))] [] _
  have h4 := hk.2.2.2.2.1 b (by omega) (by omega)
  have h5 := zdiv_in h4.1 t.toNat
  refine J_aload_n C 0 dX4_hasTurn_0 rfl ?_
  refine g_X4_18 hG C dX4_hasTurn_1 ?_
  refine J_iload_n C 1 dX4_hasTurn_4 rfl ?_
  refine cald hG C 4 8 (by decide) dX4_hasTurn_5 (by omega) (by omega) ?_
  refine J_iload_n C 2 dX4_hasTurn_6 rfl ?_
  refine J_ishr C dX4_hasTurn_7 (by omega) (by omega) (by omega) ?_
  refine J_iconst C dX4_hasTurn_8 ?_
  refine J_iand C (((S 4 (b)) / 2 ^ (t).toNat) % 2) dX4_hasTurn_9 (iI_and1 _ (by omega)) ?_
  refine J_iconst C dX4_hasTurn_10 ?_
  refine J_icmp_ne C 18 dX4_hasTurn_11 (by decide) (by omega) (by omega) (fun h1 => ?_) (fun h1 => ?_)
  · refine J_iconst C dX4_hasTurn_18 ?_
    exact J_zret R C dX4_hasTurn_19 (by first | exact Or.inl rfl | exact Or.inr rfl | omega) (jPi.mk ⟨by first | exact bb_t (by assumption) | exact bb_f (by assumption), rfl⟩)
  · refine J_iconst C dX4_hasTurn_14 ?_
    refine J_goto C 19 dX4_hasTurn_15 (by decide) ?_
    exact J_zret R C dX4_hasTurn_19 (by first | exact Or.inl rfl | exact Or.inr rfl | omega) (jPi.mk ⟨by first | exact bb_t (by assumption) | exact bb_f (by assumption), rfl⟩)
theorem c_sameExtents {G : jG} (hG : cG G) (S : jMem) (b t u : Int) (hk : cOK S) (hb : 0 ≤ b ∧ b < 8) (ht : 0 ≤ t ∧ t < 6) (hu : 0 ≤ u ∧ u < 6) : jM G yX4_sameExtents cX4_sameExtents 4 (some .boolean) 1 23 [.ref (jad G 1), .int (iI (b)), .int (iI (t)), .int (iI (u))] S (jPi (fun v S' => bb (psame (S 3) b t u) = v ∧ S = S')) := by
  refine jM.of (by decide) (Nat.le_of_ble_eq_true rfl) (fun E C R => ?_)
  show J E G 0 [(0, .ref (jad G 1)), (1, .int (iI (b))), (2, .int (iI (t))), (3, .int (iI (u)))] [] _
  refine J_aload_n C 0 dX4_sameExtents_0 rfl ?_
  refine J_iload_n C 1 dX4_sameExtents_1 rfl ?_
  refine J_iload_n C 2 dX4_sameExtents_2 rfl ?_
  refine J_iconst C dX4_sameExtents_3 ?_
  refine J_callV (k := 1) (rest := []) C (c_extent hG S (b) (t) (0) (by omega) (by omega) (by omega)) kc_X4_extent kl_X4_31 (by rw [hG.2]; decide) (by rw [hG.1]; rfl) rfl dX4_sameExtents_4 rfl rfl (by decide) (Nat.le_of_ble_eq_true rfl) (J_ki (fun v1 S1 h1 => ?_))
  obtain ⟨rfl, rfl⟩ := h1
  have q1 := pext_in hk (b := b) (t := t) (a := 0) (by omega) (by omega)
  refine J_aload_n C 0 dX4_sameExtents_7 rfl ?_
  refine J_iload_n C 1 dX4_sameExtents_8 rfl ?_
  refine J_iload_n C 3 dX4_sameExtents_9 rfl ?_
  refine J_iconst C dX4_sameExtents_10 ?_
  refine J_callV (k := 1) (rest := [.int (iI (pext (S 3) (b) (t) (0)))]) C (c_extent hG S (b) (u) (0) (by omega) (by omega) (by omega)) kc_X4_extent kl_X4_31 (by rw [hG.2]; decide) (by rw [hG.1]; rfl) rfl dX4_sameExtents_11 rfl rfl (by decide) (Nat.le_of_ble_eq_true rfl) (J_ki (fun v2 S2 h2 => ?_))
  obtain ⟨rfl, rfl⟩ := h2
  have q2 := pext_in hk (b := b) (t := u) (a := 0) (by omega) (by omega)
  refine J_icmp_ne C 55 dX4_sameExtents_14 (by decide) (by omega) (by omega) (fun h3 => ?_) (fun h3 => ?_)
  · refine J_iconst C dX4_sameExtents_55 ?_
    exact J_zret R C dX4_sameExtents_56 (by first | exact Or.inl rfl | exact Or.inr rfl | omega) (jPi.mk ⟨by first | exact bb_t (by omega) | exact bb_f (by omega), rfl⟩)
  · refine J_aload_n C 0 dX4_sameExtents_17 rfl ?_
    refine J_iload_n C 1 dX4_sameExtents_18 rfl ?_
    refine J_iload_n C 2 dX4_sameExtents_19 rfl ?_
    refine J_iconst C dX4_sameExtents_20 ?_
    refine J_callV (k := 1) (rest := []) C (c_extent hG S (b) (t) (1) (by omega) (by omega) (by omega)) kc_X4_extent kl_X4_31 (by rw [hG.2]; decide) (by rw [hG.1]; rfl) rfl dX4_sameExtents_21 rfl rfl (by decide) (Nat.le_of_ble_eq_true rfl) (J_ki (fun v4 S4 h4 => ?_))
    obtain ⟨rfl, rfl⟩ := h4
    have q3 := pext_in hk (b := b) (t := t) (a := 1) (by omega) (by omega)
    refine J_aload_n C 0 dX4_sameExtents_24 rfl ?_
    refine J_iload_n C 1 dX4_sameExtents_25 rfl ?_
    refine J_iload_n C 3 dX4_sameExtents_26 rfl ?_
    refine J_iconst C dX4_sameExtents_27 ?_
    refine J_callV (k := 1) (rest := [.int (iI (pext (S 3) (b) (t) (1)))]) C (c_extent hG S (b) (u) (1) (by omega) (by omega) (by omega)) kc_X4_extent kl_X4_31 (by rw [hG.2]; decide) (by rw [hG.1]; rfl) rfl dX4_sameExtents_28 rfl rfl (by decide) (Nat.le_of_ble_eq_true rfl) (J_ki (fun v5 S5 h5 => ?_))
    obtain ⟨rfl, rfl⟩ := h5
    have q4 := pext_in hk (b := b) (t := u) (a := 1) (by omega) (by omega)
    refine J_icmp_ne C 55 dX4_sameExtents_31 (by decide) (by omega) (by omega) (fun h6 => ?_) (fun h6 => ?_)
    · refine J_iconst C dX4_sameExtents_55 ?_
      exact J_zret R C dX4_sameExtents_56 (by first | exact Or.inl rfl | exact Or.inr rfl | omega) (jPi.mk ⟨by first | exact bb_t (by omega) | exact bb_f (by omega), rfl⟩)
    · refine J_aload_n C 0 dX4_sameExtents_34 rfl ?_
      refine J_iload_n C 1 dX4_sameExtents_35 rfl ?_
      refine J_iload_n C 2 dX4_sameExtents_36 rfl ?_
      refine J_iconst C dX4_sameExtents_37 ?_
      refine J_callV (k := 1) (rest := []) C (c_extent hG S (b) (t) (2) (by omega) (by omega) (by omega)) kc_X4_extent kl_X4_31 (by rw [hG.2]; decide) (by rw [hG.1]; rfl) rfl dX4_sameExtents_38 rfl rfl (by decide) (Nat.le_of_ble_eq_true rfl) (J_ki (fun v7 S7 h7 => ?_))
      obtain ⟨rfl, rfl⟩ := h7
      have q5 := pext_in hk (b := b) (t := t) (a := 2) (by omega) (by omega)
      refine J_aload_n C 0 dX4_sameExtents_41 rfl ?_
      refine J_iload_n C 1 dX4_sameExtents_42 rfl ?_
      refine J_iload_n C 3 dX4_sameExtents_43 rfl ?_
      refine J_iconst C dX4_sameExtents_44 ?_
      refine J_callV (k := 1) (rest := [.int (iI (pext (S 3) (b) (t) (2)))]) C (c_extent hG S (b) (u) (2) (by omega) (by omega) (by omega)) kc_X4_extent kl_X4_31 (by rw [hG.2]; decide) (by rw [hG.1]; rfl) rfl dX4_sameExtents_45 rfl rfl (by decide) (Nat.le_of_ble_eq_true rfl) (J_ki (fun v8 S8 h8 => ?_))
      obtain ⟨rfl, rfl⟩ := h8
      have q6 := pext_in hk (b := b) (t := u) (a := 2) (by omega) (by omega)
      refine J_icmp_ne C 55 dX4_sameExtents_48 (by decide) (by omega) (by omega) (fun h9 => ?_) (fun h9 => ?_)
      · refine J_iconst C dX4_sameExtents_55 ?_
        exact J_zret R C dX4_sameExtents_56 (by first | exact Or.inl rfl | exact Or.inr rfl | omega) (jPi.mk ⟨by first | exact bb_t (by omega) | exact bb_f (by omega), rfl⟩)
      · refine J_iconst C dX4_sameExtents_51 ?_
        refine J_goto C 56 dX4_sameExtents_52 (by decide) ?_
        exact J_zret R C dX4_sameExtents_56 (by first | exact Or.inl rfl | exact Or.inr rfl | omega) (jPi.mk ⟨by first | exact bb_t (by omega) | exact bb_f (by omega), rfl⟩)
theorem c_isShort {G : jG} (hG : cG G) (S : jMem) (b t : Int) (hk : cOK S) (hb : 0 ≤ b ∧ b < 8) (ht : 0 ≤ t ∧ t < 6) : jM G yX4_isShort cX4_isShort 3 (some .boolean) 1 23 [.ref (jad G 1), .int (iI (b)), .int (iI (t))] S (jPi (fun v S' => bb (pshort (S 2) (S 3) b t) = v ∧ S = S')) := by
  refine jM.of (by decide) (Nat.le_of_ble_eq_true rfl) (fun E C R => ?_)
  show J E G 0 [(0, .ref (jad G 1)), (1, .int (iI (b))), (2, .int (iI (t)))] [] _
  have l0 := hk.2.1 0 (by omega) (by omega)
  have l1 := hk.2.1 1 (by omega) (by omega)
  have l2 := hk.2.1 2 (by omega) (by omega)
  refine J_aload_n C 0 dX4_isShort_0 rfl ?_
  refine J_iload_n C 1 dX4_isShort_1 rfl ?_
  refine J_iload_n C 2 dX4_isShort_2 rfl ?_
  refine J_iconst C dX4_isShort_3 ?_
  refine J_callV (k := 1) (rest := []) C (c_extent hG S (b) (t) (0) (by omega) (by omega) (by omega)) kc_X4_extent kl_X4_31 (by rw [hG.2]; decide) (by rw [hG.1]; rfl) rfl dX4_isShort_4 rfl rfl (by decide) (Nat.le_of_ble_eq_true rfl) (J_ki (fun v1 S1 h1 => ?_))
  obtain ⟨rfl, rfl⟩ := h1
  have q7 := pext_in hk (b := b) (t := t) (a := 0) (by omega) (by omega)
  refine J_aload_n C 0 dX4_isShort_7 rfl ?_
  refine g_X4_9 hG C dX4_isShort_8 ?_
  refine J_iconst C dX4_isShort_11 ?_
  refine cald hG C 2 3 (by decide) dX4_isShort_12 (by omega) (by omega) ?_
  refine J_icmp_gt C 52 dX4_isShort_13 (by decide) (by omega) (by omega) (fun h2 => ?_) (fun h2 => ?_)
  · refine J_iconst C dX4_isShort_52 ?_
    exact J_zret R C dX4_isShort_53 (by first | exact Or.inl rfl | exact Or.inr rfl | omega) (jPi.mk ⟨by first | exact bb_t (by omega) | exact bb_f (by omega), rfl⟩)
  · refine J_aload_n C 0 dX4_isShort_16 rfl ?_
    refine J_iload_n C 1 dX4_isShort_17 rfl ?_
    refine J_iload_n C 2 dX4_isShort_18 rfl ?_
    refine J_iconst C dX4_isShort_19 ?_
    refine J_callV (k := 1) (rest := []) C (c_extent hG S (b) (t) (1) (by omega) (by omega) (by omega)) kc_X4_extent kl_X4_31 (by rw [hG.2]; decide) (by rw [hG.1]; rfl) rfl dX4_isShort_20 rfl rfl (by decide) (Nat.le_of_ble_eq_true rfl) (J_ki (fun v3 S3 h3 => ?_))
    obtain ⟨rfl, rfl⟩ := h3
    have q8 := pext_in hk (b := b) (t := t) (a := 1) (by omega) (by omega)
    refine J_aload_n C 0 dX4_isShort_23 rfl ?_
    refine g_X4_9 hG C dX4_isShort_24 ?_
    refine J_iconst C dX4_isShort_27 ?_
    refine cald hG C 2 3 (by decide) dX4_isShort_28 (by omega) (by omega) ?_
    refine J_icmp_gt C 52 dX4_isShort_29 (by decide) (by omega) (by omega) (fun h4 => ?_) (fun h4 => ?_)
    · refine J_iconst C dX4_isShort_52 ?_
      exact J_zret R C dX4_isShort_53 (by first | exact Or.inl rfl | exact Or.inr rfl | omega) (jPi.mk ⟨by first | exact bb_t (by omega) | exact bb_f (by omega), rfl⟩)
    · refine J_aload_n C 0 dX4_isShort_32 rfl ?_
      refine J_iload_n C 1 dX4_isShort_33 rfl ?_
      refine J_iload_n C 2 dX4_isShort_34 rfl ?_
      refine J_iconst C dX4_isShort_35 ?_
      refine J_callV (k := 1) (rest := []) C (c_extent hG S (b) (t) (2) (by omega) (by omega) (by omega)) kc_X4_extent kl_X4_31 (by rw [hG.2]; decide) (by rw [hG.1]; rfl) rfl dX4_isShort_36 rfl rfl (by decide) (Nat.le_of_ble_eq_true rfl) (J_ki (fun v5 S5 h5 => ?_))
      obtain ⟨rfl, rfl⟩ := h5
      have q9 := pext_in hk (b := b) (t := t) (a := 2) (by omega) (by omega)
      refine J_aload_n C 0 dX4_isShort_39 rfl ?_
      refine g_X4_9 hG C dX4_isShort_40 ?_
      refine J_iconst C dX4_isShort_43 ?_
      refine cald hG C 2 3 (by decide) dX4_isShort_44 (by omega) (by omega) ?_
      refine J_icmp_gt C 52 dX4_isShort_45 (by decide) (by omega) (by omega) (fun h6 => ?_) (fun h6 => ?_)
      · refine J_iconst C dX4_isShort_52 ?_
        exact J_zret R C dX4_isShort_53 (by first | exact Or.inl rfl | exact Or.inr rfl | omega) (jPi.mk ⟨by first | exact bb_t (by omega) | exact bb_f (by omega), rfl⟩)
      · refine J_iconst C dX4_isShort_48 ?_
        refine J_goto C 53 dX4_isShort_49 (by decide) ?_
        exact J_zret R C dX4_isShort_53 (by first | exact Or.inl rfl | exact Or.inr rfl | omega) (jPi.mk ⟨by first | exact bb_t (by omega) | exact bb_f (by omega), rfl⟩)
theorem c_liesWithin {G : jG} (hG : cG G) (S : jMem) (a f e : Int) (hk : cOK S) (ha : 0 ≤ a ∧ a < 3) (hf : inR f) (he : 0 ≤ e ∧ e ≤ 20) : jM G yX4_liesWithin cX4_liesWithin 4 (some .boolean) 0 0 [.ref (jad G 1), .int (iI (a)), .int (iI (f)), .int (iI (e))] S (jPi (fun v S' => bb (0 ≤ f ∧ f ≤ S 2 a - e) = v ∧ S = S')) := by
  refine jM.of (by decide) (Nat.le_of_ble_eq_true rfl) (fun E C R => ?_)
  show J E G 0 [(0, .ref (jad G 1)), (1, .int (iI (a))), (2, .int (iI (f))), (3, .int (iI (e)))] [] _
  have l0 := hk.2.1 a (by omega) (by omega)
  refine J_iload_n C 2 dX4_liesWithin_0 rfl ?_
  refine J_if_lt C 20 dX4_liesWithin_1 (by decide) (by omega) (fun h1 => ?_) (fun h1 => ?_)
  · refine J_iconst C dX4_liesWithin_20 ?_
    exact J_zret R C dX4_liesWithin_21 (by first | exact Or.inl rfl | exact Or.inr rfl | omega) (jPi.mk ⟨by first | exact bb_t (by omega) | exact bb_f (by omega), rfl⟩)
  · refine J_iload_n C 2 dX4_liesWithin_4 rfl ?_
    refine J_aload_n C 0 dX4_liesWithin_5 rfl ?_
    refine g_X4_9 hG C dX4_liesWithin_6 ?_
    refine J_iload_n C 1 dX4_liesWithin_9 rfl ?_
    refine cald hG C 2 3 (by decide) dX4_liesWithin_10 (by omega) (by omega) ?_
    refine J_iload_n C 3 dX4_liesWithin_11 rfl ?_
    refine J_isub C dX4_liesWithin_12 ?_
    refine J_icmp_gt C 20 dX4_liesWithin_13 (by decide) (by omega) (by omega) (fun h2 => ?_) (fun h2 => ?_)
    · refine J_iconst C dX4_liesWithin_20 ?_
      exact J_zret R C dX4_liesWithin_21 (by first | exact Or.inl rfl | exact Or.inr rfl | omega) (jPi.mk ⟨by first | exact bb_t (by omega) | exact bb_f (by omega), rfl⟩)
    · refine J_iconst C dX4_liesWithin_16 ?_
      refine J_goto C 21 dX4_liesWithin_17 (by decide) ?_
      exact J_zret R C dX4_liesWithin_21 (by first | exact Or.inl rfl | exact Or.inr rfl | omega) (jPi.mk ⟨by first | exact bb_t (by omega) | exact bb_f (by omega), rfl⟩)
theorem c_isPlace {G : jG} (hG : cG G) (S : jMem) (b t x y z : Int) (hk : cOK S) (hb : inR b) (ht : inR t) (hx : inR x) (hy : inR y) (hz : inR z) : jM G yX4_isPlace cX4_isPlace 6 (some .boolean) 1 23 [.ref (jad G 1), .int (iI (b)), .int (iI (t)), .int (iI (x)), .int (iI (y)), .int (iI (z))] S (jPi (fun v S' => bb (pplace (S 1 4) (S 2) (S 3) (S 4) b t x y z) = v ∧ S = S')) := by
  refine jM.of (by decide) (Nat.le_of_ble_eq_true rfl) (fun E C R => ?_)
  show J E G 0 [(0, .ref (jad G 1)), (1, .int (iI (b))), (2, .int (iI (t))), (3, .int (iI (x))), (4, .int (iI (y))), (5, .int (iI (z)))] [] _
  have hn := hk.1
  refine J_aload_n C 0 dX4_isPlace_0 rfl ?_
  refine J_iload_n C 1 dX4_isPlace_1 rfl ?_
  refine J_callV (k := 1) (rest := []) C (c_isBox hG S (b) (by omega) (by omega)) kc_X4_isBox kl_X4_46 (by rw [hG.2]; decide) (by rw [hG.1]; rfl) rfl dX4_isPlace_2 rfl rfl (by decide) (Nat.le_of_ble_eq_true rfl) (J_ki (fun v1 S1 h1 => ?_))
  obtain ⟨rfl, rfl⟩ := h1
  refine J_if_eq_b C 81 dX4_isPlace_5 (by decide) (fun h2 => ?_) (fun h2 => ?_)
  · refine J_iconst C dX4_isPlace_81 ?_
    exact J_zret R C dX4_isPlace_82 (by first | exact Or.inl rfl | exact Or.inr rfl | omega) (jPi.mk ⟨by first | exact bb_t (by omega) | exact bb_f (by omega), rfl⟩)
  · refine J_iload_n C 2 dX4_isPlace_8 rfl ?_
    refine J_if_lt C 81 dX4_isPlace_9 (by decide) (by omega) (fun h3 => ?_) (fun h3 => ?_)
    · refine J_iconst C dX4_isPlace_81 ?_
      exact J_zret R C dX4_isPlace_82 (by first | exact Or.inl rfl | exact Or.inr rfl | omega) (jPi.mk ⟨by first | exact bb_t (by omega) | exact bb_f (by omega), rfl⟩)
    · refine J_iload_n C 2 dX4_isPlace_12 rfl ?_
      refine J_bipush C dX4_isPlace_13 (by decide) ?_
      refine J_icmp_ge C 81 dX4_isPlace_15 (by decide) (by omega) (by omega) (fun h4 => ?_) (fun h4 => ?_)
      · refine J_iconst C dX4_isPlace_81 ?_
        exact J_zret R C dX4_isPlace_82 (by first | exact Or.inl rfl | exact Or.inr rfl | omega) (jPi.mk ⟨by first | exact bb_t (by omega) | exact bb_f (by omega), rfl⟩)
      · refine J_aload_n C 0 dX4_isPlace_18 rfl ?_
        refine J_iload_n C 1 dX4_isPlace_19 rfl ?_
        refine J_iload_n C 2 dX4_isPlace_20 rfl ?_
        refine J_callV (k := 1) (rest := []) C (c_hasTurn hG S (b) (t) hk (by omega) (by omega)) kc_X4_hasTurn kl_X4_35 (by rw [hG.2]; decide) (by rw [hG.1]; rfl) rfl dX4_isPlace_21 rfl rfl (by decide) (Nat.le_of_ble_eq_true rfl) (J_ki (fun v5 S5 h5 => ?_))
        obtain ⟨rfl, rfl⟩ := h5
        refine J_if_eq_b C 81 dX4_isPlace_24 (by decide) (fun h6 => ?_) (fun h6 => ?_)
        · refine J_iconst C dX4_isPlace_81 ?_
          exact J_zret R C dX4_isPlace_82 (by first | exact Or.inl rfl | exact Or.inr rfl | omega) (jPi.mk ⟨by first | exact bb_t (by omega) | exact bb_f (by omega), rfl⟩)
        · refine J_aload_n C 0 dX4_isPlace_27 rfl ?_
          refine J_iconst C dX4_isPlace_28 ?_
          refine J_iload_n C 3 dX4_isPlace_29 rfl ?_
          refine J_aload_n C 0 dX4_isPlace_30 rfl ?_
          refine J_iload_n C 1 dX4_isPlace_31 rfl ?_
          refine J_iload_n C 2 dX4_isPlace_32 rfl ?_
          refine J_iconst C dX4_isPlace_33 ?_
          refine J_callV (k := 1) (rest := [.int (iI (x)), .int (iI (0)), .ref (jad G 1)]) C (c_extent hG S (b) (t) (0) (by omega) (by omega) (by omega)) kc_X4_extent kl_X4_31 (by rw [hG.2]; decide) (by rw [hG.1]; rfl) rfl dX4_isPlace_34 rfl rfl (by decide) (Nat.le_of_ble_eq_true rfl) (J_ki (fun v7 S7 h7 => ?_))
          obtain ⟨rfl, rfl⟩ := h7
          have q10 := pext_in hk (b := b) (t := t) (a := 0) (by omega) (by omega)
          refine J_callV (k := 1) (rest := []) C (c_liesWithin hG S (0) (x) (pext (S 3) (b) (t) (0)) hk (by omega) (by omega) (by omega)) kc_X4_liesWithin kl_X4_50 (by rw [hG.2]; decide) (by rw [hG.1]; rfl) rfl dX4_isPlace_37 rfl rfl (by decide) (Nat.le_of_ble_eq_true rfl) (J_ki (fun v8 S8 h8 => ?_))
          obtain ⟨rfl, rfl⟩ := h8
          refine J_if_eq_b C 81 dX4_isPlace_40 (by decide) (fun h9 => ?_) (fun h9 => ?_)
          · refine J_iconst C dX4_isPlace_81 ?_
            exact J_zret R C dX4_isPlace_82 (by first | exact Or.inl rfl | exact Or.inr rfl | omega) (jPi.mk ⟨by first | exact bb_t (by omega) | exact bb_f (by omega), rfl⟩)
          · refine J_aload_n C 0 dX4_isPlace_43 rfl ?_
            refine J_iconst C dX4_isPlace_44 ?_
            refine J_iload C 4 dX4_isPlace_45 rfl ?_
            refine J_aload_n C 0 dX4_isPlace_47 rfl ?_
            refine J_iload_n C 1 dX4_isPlace_48 rfl ?_
            refine J_iload_n C 2 dX4_isPlace_49 rfl ?_
            refine J_iconst C dX4_isPlace_50 ?_
            refine J_callV (k := 1) (rest := [.int (iI (y)), .int (iI (1)), .ref (jad G 1)]) C (c_extent hG S (b) (t) (1) (by omega) (by omega) (by omega)) kc_X4_extent kl_X4_31 (by rw [hG.2]; decide) (by rw [hG.1]; rfl) rfl dX4_isPlace_51 rfl rfl (by decide) (Nat.le_of_ble_eq_true rfl) (J_ki (fun v10 S10 h10 => ?_))
            obtain ⟨rfl, rfl⟩ := h10
            have q11 := pext_in hk (b := b) (t := t) (a := 1) (by omega) (by omega)
            refine J_callV (k := 1) (rest := []) C (c_liesWithin hG S (1) (y) (pext (S 3) (b) (t) (1)) hk (by omega) (by omega) (by omega)) kc_X4_liesWithin kl_X4_50 (by rw [hG.2]; decide) (by rw [hG.1]; rfl) rfl dX4_isPlace_54 rfl rfl (by decide) (Nat.le_of_ble_eq_true rfl) (J_ki (fun v11 S11 h11 => ?_))
            obtain ⟨rfl, rfl⟩ := h11
            refine J_if_eq_b C 81 dX4_isPlace_57 (by decide) (fun h12 => ?_) (fun h12 => ?_)
            · refine J_iconst C dX4_isPlace_81 ?_
              exact J_zret R C dX4_isPlace_82 (by first | exact Or.inl rfl | exact Or.inr rfl | omega) (jPi.mk ⟨by first | exact bb_t (by omega) | exact bb_f (by omega), rfl⟩)
            · refine J_aload_n C 0 dX4_isPlace_60 rfl ?_
              refine J_iconst C dX4_isPlace_61 ?_
              refine J_iload C 5 dX4_isPlace_62 rfl ?_
              refine J_aload_n C 0 dX4_isPlace_64 rfl ?_
              refine J_iload_n C 1 dX4_isPlace_65 rfl ?_
              refine J_iload_n C 2 dX4_isPlace_66 rfl ?_
              refine J_iconst C dX4_isPlace_67 ?_
              refine J_callV (k := 1) (rest := [.int (iI (z)), .int (iI (2)), .ref (jad G 1)]) C (c_extent hG S (b) (t) (2) (by omega) (by omega) (by omega)) kc_X4_extent kl_X4_31 (by rw [hG.2]; decide) (by rw [hG.1]; rfl) rfl dX4_isPlace_68 rfl rfl (by decide) (Nat.le_of_ble_eq_true rfl) (J_ki (fun v13 S13 h13 => ?_))
              obtain ⟨rfl, rfl⟩ := h13
              have q12 := pext_in hk (b := b) (t := t) (a := 2) (by omega) (by omega)
              refine J_callV (k := 1) (rest := []) C (c_liesWithin hG S (2) (z) (pext (S 3) (b) (t) (2)) hk (by omega) (by omega) (by omega)) kc_X4_liesWithin kl_X4_50 (by rw [hG.2]; decide) (by rw [hG.1]; rfl) rfl dX4_isPlace_71 rfl rfl (by decide) (Nat.le_of_ble_eq_true rfl) (J_ki (fun v14 S14 h14 => ?_))
              obtain ⟨rfl, rfl⟩ := h14
              refine J_if_eq_b C 81 dX4_isPlace_74 (by decide) (fun h15 => ?_) (fun h15 => ?_)
              · refine J_iconst C dX4_isPlace_81 ?_
                exact J_zret R C dX4_isPlace_82 (by first | exact Or.inl rfl | exact Or.inr rfl | omega) (jPi.mk ⟨by first | exact bb_t (by omega) | exact bb_f (by omega), rfl⟩)
              · refine J_iconst C dX4_isPlace_77 ?_
                refine J_goto C 82 dX4_isPlace_78 (by decide) ?_
                exact J_zret R C dX4_isPlace_82 (by first | exact Or.inl rfl | exact Or.inr rfl | omega) (jPi.mk ⟨by first | exact bb_t (by omega) | exact bb_f (by omega), rfl⟩)
theorem l_counts {E : jEnv} {G : jG} (hG : cG G) (C : jX E G cX4_counts 4 RX4 2 46) (S : jMem) (b t : Int) (hk : cOK S) (hb : 0 ≤ b ∧ b < 8) (ht : 0 ≤ t ∧ t < 6) (hh : phas (S 4) b t) (hs : pshort (S 2) (S 3) b t) (R : jR E G (some .boolean) (jPi (fun v S' => bb (pcounts (S 2) (S 3) (S 4) b t) = v ∧ S = S'))) : ∀ (n : Nat) (u : Int), n = (t - u).toNat → ((0 ≤ u ∧ u ≤ t) ∧ ∀ u2, 0 ≤ u2 → u2 < u → ¬ (phas (S 4) b u2 ∧ psame (S 3) b u2 t)) → J E G 22 [(0, .ref (jad G 1)), (1, .int (iI (b))), (2, .int (iI (t))), (3, .int (iI (u)))] [] S := by
  intro n
  induction n using Nat.strongRecOn with | ind n ih => ?_
  intro u hn hi
  refine J_iload_n C 3 dX4_counts_22 rfl ?_
  refine J_iload_n C 2 dX4_counts_23 rfl ?_
  refine J_icmp_ge C 54 dX4_counts_24 (by decide) (by omega) (by omega) (fun h1 => ?_) (fun h1 => ?_)
  · refine J_iconst C dX4_counts_54 ?_
    exact J_zret R C dX4_counts_55 (Or.inr rfl) (jPi.mk ⟨bb_t ⟨hh, hs, fun u2 h1 h2 => hi.2 u2 h1 (by omega)⟩, rfl⟩)
  · refine J_aload_n C 0 dX4_counts_27 rfl ?_
    refine J_iload_n C 1 dX4_counts_28 rfl ?_
    refine J_iload_n C 3 dX4_counts_29 rfl ?_
    refine J_callV (k := 1) (rest := []) C (c_hasTurn hG S (b) (u) hk (by omega) (by omega)) kc_X4_hasTurn kl_X4_35 (by rw [hG.2]; decide) (by rw [hG.1]; rfl) rfl dX4_counts_30 rfl rfl (by decide) (Nat.le_of_ble_eq_true rfl) (J_ki (fun v2 S2 h2 => ?_))
    obtain ⟨rfl, rfl⟩ := h2
    refine J_if_eq_b C 48 dX4_counts_33 (by decide) (fun h3 => ?_) (fun h3 => ?_)
    · refine J_iinc (lv' := [(3, .int (iI (u + 1))), (0, .ref (jad G 1)), (1, .int (iI (b))), (2, .int (iI (t)))]) C 3 dX4_counts_48 rfl (by decide) rfl ?_
      refine J_goto C 22 dX4_counts_51 (by decide) ?_
      refine J_lv [1, 2, 3, 0] rfl ?_
      refine ih _ (by omega) (u + 1) rfl ⟨by omega, fun u2 h1 h2 => ?_⟩
      by_cases hu : u2 < u
      · exact hi.2 u2 h1 hu
      · have : u2 = u := by omega
        subst this
        intro hq
        first | exact absurd hq.1 (by assumption) | exact absurd hq.2 (by assumption)
    · refine J_aload_n C 0 dX4_counts_36 rfl ?_
      refine J_iload_n C 1 dX4_counts_37 rfl ?_
      refine J_iload_n C 3 dX4_counts_38 rfl ?_
      refine J_iload_n C 2 dX4_counts_39 rfl ?_
      refine J_callV (k := 1) (rest := []) C (c_sameExtents hG S (b) (u) (t) hk (by omega) (by omega) (by omega)) kc_X4_sameExtents kl_X4_42 (by rw [hG.2]; decide) (by rw [hG.1]; rfl) rfl dX4_counts_40 rfl rfl (by decide) (Nat.le_of_ble_eq_true rfl) (J_ki (fun v4 S4 h4 => ?_))
      obtain ⟨rfl, rfl⟩ := h4
      refine J_if_eq_b C 48 dX4_counts_43 (by decide) (fun h5 => ?_) (fun h5 => ?_)
      · refine J_iinc (lv' := [(3, .int (iI (u + 1))), (0, .ref (jad G 1)), (1, .int (iI (b))), (2, .int (iI (t)))]) C 3 dX4_counts_48 rfl (by decide) rfl ?_
        refine J_goto C 22 dX4_counts_51 (by decide) ?_
        refine J_lv [1, 2, 3, 0] rfl ?_
        refine ih _ (by omega) (u + 1) rfl ⟨by omega, fun u2 h1 h2 => ?_⟩
        by_cases hu : u2 < u
        · exact hi.2 u2 h1 hu
        · have : u2 = u := by omega
          subst this
          intro hq
          first | exact absurd hq.1 (by assumption) | exact absurd hq.2 (by assumption)
      · refine J_iconst C dX4_counts_46 ?_
        exact J_zret R C dX4_counts_47 (Or.inl rfl) (jPi.mk ⟨bb_f (fun hp => hp.2.2 u (by omega) (by omega) ⟨by assumption, by assumption⟩), rfl⟩)
theorem c_counts {G : jG} (hG : cG G) (S : jMem) (b t : Int) (hk : cOK S) (hb : 0 ≤ b ∧ b < 8) (ht : 0 ≤ t ∧ t < 6) : jM G yX4_counts cX4_counts 4 (some .boolean) 2 46 [.ref (jad G 1), .int (iI (b)), .int (iI (t))] S (jPi (fun v S' => bb (pcounts (S 2) (S 3) (S 4) b t) = v ∧ S = S')) := by
  refine jM.of (by decide) (Nat.le_of_ble_eq_true rfl) (fun E C R => ?_)
  show J E G 0 [(0, .ref (jad G 1)), (1, .int (iI (b))), (2, .int (iI (t)))] [] _
  refine J_aload_n C 0 dX4_counts_0 rfl ?_
  refine J_iload_n C 1 dX4_counts_1 rfl ?_
  refine J_iload_n C 2 dX4_counts_2 rfl ?_
  refine J_callV (k := 1) (rest := []) C (c_hasTurn hG S (b) (t) hk (by omega) (by omega)) kc_X4_hasTurn kl_X4_35 (by rw [hG.2]; decide) (by rw [hG.1]; rfl) rfl dX4_counts_3 rfl rfl (by decide) (Nat.le_of_ble_eq_true rfl) (J_ki (fun v1 S1 h1 => ?_))
  obtain ⟨rfl, rfl⟩ := h1
  refine J_if_eq_b C 18 dX4_counts_6 (by decide) (fun h2 => ?_) (fun h2 => ?_)
  · refine J_iconst C dX4_counts_18 ?_
    exact J_zret R C dX4_counts_19 (Or.inl rfl) (jPi.mk ⟨bb_f (fun hp => by first | exact absurd hp.1 (by assumption) | exact absurd hp.2.1 (by assumption)), rfl⟩)
  · refine J_aload_n C 0 dX4_counts_9 rfl ?_
    refine J_iload_n C 1 dX4_counts_10 rfl ?_
    refine J_iload_n C 2 dX4_counts_11 rfl ?_
    refine J_callV (k := 1) (rest := []) C (c_isShort hG S (b) (t) hk (by omega) (by omega)) kc_X4_isShort kl_X4_39 (by rw [hG.2]; decide) (by rw [hG.1]; rfl) rfl dX4_counts_12 rfl rfl (by decide) (Nat.le_of_ble_eq_true rfl) (J_ki (fun v3 S3 h3 => ?_))
    obtain ⟨rfl, rfl⟩ := h3
    refine J_if_ne_b C 20 dX4_counts_15 (by decide) (fun h4 => ?_) (fun h4 => ?_)
    · refine J_iconst C dX4_counts_20 ?_
      refine J_istore_n (lv' := [(3, .int (iI (0))), (0, .ref (jad G 1)), (1, .int (iI (b))), (2, .int (iI (t)))]) C dX4_counts_21 (by decide) rfl ?_
      refine J_lv [1, 2, 3, 0] rfl ?_
      exact l_counts hG C S b t hk hb ht (by assumption) (by assumption) R _ 0 rfl ⟨by omega, fun u2 h1 h2 => by omega⟩
    · refine J_iconst C dX4_counts_18 ?_
      exact J_zret R C dX4_counts_19 (Or.inl rfl) (jPi.mk ⟨bb_f (fun hp => by first | exact absurd hp.1 (by assumption) | exact absurd hp.2.1 (by assumption)), rfl⟩)
theorem l_room {E : jEnv} {G : jG} (hG : cG G) (C : jX E G cX4_hasRoomBeside 11 RX4 3 69) (S : jMem) (o b t x y z : Int) (hk : cOK S) (ho : 0 ≤ o ∧ o < 8) (hb : 0 ≤ b ∧ b < 8) (ht : 0 ≤ t ∧ t < 6) (hx : 0 ≤ x ∧ x ≤ 20) (hy : 0 ≤ y ∧ y ≤ 20) (hz : 0 ≤ z ∧ z ≤ 20) (R : jR E G (some .boolean) (jPi (fun v S' => bb (proom (S 2) (S 3) (S 4) o b t x y z) = v ∧ S = S'))) : ∀ (n : Nat) (u : Int), n = (6 - u).toNat → ((0 ≤ u ∧ u ≤ 6) ∧ ∀ u2, 0 ≤ u2 → u2 < u → pcounts (S 2) (S 3) (S 4) o u2 → ¬ (pext (S 3) o u2 0 ≤ max x (S 2 0 - x - pext (S 3) b t 0) ∨ pext (S 3) o u2 1 ≤ max y (S 2 1 - y - pext (S 3) b t 1) ∨ pext (S 3) o u2 2 ≤ max z (S 2 2 - z - pext (S 3) b t 2))) → J E G 75 [(0, .ref (jad G 1)), (1, .int (iI (o))), (7, .int (iI (max x (S 2 0 - x - pext (S 3) b t 0)))), (8, .int (iI (max y (S 2 1 - y - pext (S 3) b t 1)))), (9, .int (iI (max z (S 2 2 - z - pext (S 3) b t 2)))), (10, .int (iI (u)))] [] S := by
  intro n
  induction n using Nat.strongRecOn with | ind n ih => ?_
  intro u hn hi
  have l0 := hk.2.1 0 (by omega) (by omega)
  have l1 := hk.2.1 1 (by omega) (by omega)
  have l2 := hk.2.1 2 (by omega) (by omega)
  have b0 := pext_in hk (b := b) (t := t) (a := 0) (by omega) (by omega)
  have b1 := pext_in hk (b := b) (t := t) (a := 1) (by omega) (by omega)
  have b2 := pext_in hk (b := b) (t := t) (a := 2) (by omega) (by omega)
  refine J_iload C 5 dX4_hasRoomBeside_75 rfl ?_
  refine J_bipush C dX4_hasRoomBeside_77 (by decide) ?_
  refine J_icmp_ge C 139 dX4_hasRoomBeside_79 (by decide) (by omega) (by omega) (fun h1 => ?_) (fun h1 => ?_)
  · refine J_iconst C dX4_hasRoomBeside_139 ?_
    exact J_zret R C dX4_hasRoomBeside_140 (Or.inl rfl) (jPi.mk ⟨bb_f (fun ⟨u2, h1, h2, h3⟩ => hi.2 u2 h1.1 (by omega) h2 h3), rfl⟩)
  · refine J_aload_n C 0 dX4_hasRoomBeside_82 rfl ?_
    refine J_iload_n C 1 dX4_hasRoomBeside_83 rfl ?_
    refine J_iload C 5 dX4_hasRoomBeside_84 rfl ?_
    refine J_callV (k := 1) (rest := []) C (c_counts hG S (o) (u) hk (by omega) (by omega)) kc_X4_counts kl_X4_59 (by rw [hG.2]; decide) (by rw [hG.1]; rfl) rfl dX4_hasRoomBeside_86 rfl rfl (by decide) (Nat.le_of_ble_eq_true rfl) (J_ki (fun v2 S2 h2 => ?_))
    obtain ⟨rfl, rfl⟩ := h2
    refine J_if_eq_b C 133 dX4_hasRoomBeside_89 (by decide) (fun h3 => ?_) (fun h3 => ?_)
    · refine J_iinc (lv' := [(10, .int (iI (u + 1))), (0, .ref (jad G 1)), (1, .int (iI (o))), (7, .int (iI (max x (S 2 0 - x - pext (S 3) b t 0)))), (8, .int (iI (max y (S 2 1 - y - pext (S 3) b t 1)))), (9, .int (iI (max z (S 2 2 - z - pext (S 3) b t 2))))]) C 5 dX4_hasRoomBeside_133 rfl (by decide) rfl ?_
      refine J_goto C 75 dX4_hasRoomBeside_136 (by decide) ?_
      refine J_lv [1, 2, 3, 4, 5, 0] rfl ?_
      refine ih _ (by omega) (u + 1) rfl ⟨by omega, fun u2 h1 h2 => ?_⟩
      by_cases hu : u2 < u
      · exact hi.2 u2 h1 hu
      · have : u2 = u := by omega
        subst this
        intro hq
        first | exact absurd hq (by assumption) | (intro hq2; omega)
    · refine J_aload_n C 0 dX4_hasRoomBeside_92 rfl ?_
      refine J_iload_n C 1 dX4_hasRoomBeside_93 rfl ?_
      refine J_iload C 5 dX4_hasRoomBeside_94 rfl ?_
      refine J_iconst C dX4_hasRoomBeside_96 ?_
      refine J_callV (k := 1) (rest := []) C (c_extent hG S (o) (u) (0) (by omega) (by omega) (by omega)) kc_X4_extent kl_X4_31 (by rw [hG.2]; decide) (by rw [hG.1]; rfl) rfl dX4_hasRoomBeside_97 rfl rfl (by decide) (Nat.le_of_ble_eq_true rfl) (J_ki (fun v4 S4 h4 => ?_))
      obtain ⟨rfl, rfl⟩ := h4
      have q13 := pext_in hk (b := o) (t := u) (a := 0) (by omega) (by omega)
      refine J_iload C 2 dX4_hasRoomBeside_100 rfl ?_
      refine J_icmp_le C 131 dX4_hasRoomBeside_102 (by decide) (by omega) (by omega) (fun h5 => ?_) (fun h5 => ?_)
      · refine J_iconst C dX4_hasRoomBeside_131 ?_
        exact J_zret R C dX4_hasRoomBeside_132 (Or.inr rfl) (jPi.mk ⟨bb_t ⟨u, by omega, by assumption, by omega⟩, rfl⟩)
      · refine J_aload_n C 0 dX4_hasRoomBeside_105 rfl ?_
        refine J_iload_n C 1 dX4_hasRoomBeside_106 rfl ?_
        refine J_iload C 5 dX4_hasRoomBeside_107 rfl ?_
        refine J_iconst C dX4_hasRoomBeside_109 ?_
        refine J_callV (k := 1) (rest := []) C (c_extent hG S (o) (u) (1) (by omega) (by omega) (by omega)) kc_X4_extent kl_X4_31 (by rw [hG.2]; decide) (by rw [hG.1]; rfl) rfl dX4_hasRoomBeside_110 rfl rfl (by decide) (Nat.le_of_ble_eq_true rfl) (J_ki (fun v6 S6 h6 => ?_))
        obtain ⟨rfl, rfl⟩ := h6
        have q14 := pext_in hk (b := o) (t := u) (a := 1) (by omega) (by omega)
        refine J_iload C 3 dX4_hasRoomBeside_113 rfl ?_
        refine J_icmp_le C 131 dX4_hasRoomBeside_115 (by decide) (by omega) (by omega) (fun h7 => ?_) (fun h7 => ?_)
        · refine J_iconst C dX4_hasRoomBeside_131 ?_
          exact J_zret R C dX4_hasRoomBeside_132 (Or.inr rfl) (jPi.mk ⟨bb_t ⟨u, by omega, by assumption, by omega⟩, rfl⟩)
        · refine J_aload_n C 0 dX4_hasRoomBeside_118 rfl ?_
          refine J_iload_n C 1 dX4_hasRoomBeside_119 rfl ?_
          refine J_iload C 5 dX4_hasRoomBeside_120 rfl ?_
          refine J_iconst C dX4_hasRoomBeside_122 ?_
          refine J_callV (k := 1) (rest := []) C (c_extent hG S (o) (u) (2) (by omega) (by omega) (by omega)) kc_X4_extent kl_X4_31 (by rw [hG.2]; decide) (by rw [hG.1]; rfl) rfl dX4_hasRoomBeside_123 rfl rfl (by decide) (Nat.le_of_ble_eq_true rfl) (J_ki (fun v8 S8 h8 => ?_))
          obtain ⟨rfl, rfl⟩ := h8
          have q15 := pext_in hk (b := o) (t := u) (a := 2) (by omega) (by omega)
          refine J_iload C 4 dX4_hasRoomBeside_126 rfl ?_
          refine J_icmp_gt C 133 dX4_hasRoomBeside_128 (by decide) (by omega) (by omega) (fun h9 => ?_) (fun h9 => ?_)
          · refine J_iinc (lv' := [(10, .int (iI (u + 1))), (0, .ref (jad G 1)), (1, .int (iI (o))), (7, .int (iI (max x (S 2 0 - x - pext (S 3) b t 0)))), (8, .int (iI (max y (S 2 1 - y - pext (S 3) b t 1)))), (9, .int (iI (max z (S 2 2 - z - pext (S 3) b t 2))))]) C 5 dX4_hasRoomBeside_133 rfl (by decide) rfl ?_
            refine J_goto C 75 dX4_hasRoomBeside_136 (by decide) ?_
            refine J_lv [1, 2, 3, 4, 5, 0] rfl ?_
            refine ih _ (by omega) (u + 1) rfl ⟨by omega, fun u2 h1 h2 => ?_⟩
            by_cases hu : u2 < u
            · exact hi.2 u2 h1 hu
            · have : u2 = u := by omega
              subst this
              intro hq
              first | exact absurd hq (by assumption) | (intro hq2; omega)
          · refine J_iconst C dX4_hasRoomBeside_131 ?_
            exact J_zret R C dX4_hasRoomBeside_132 (Or.inr rfl) (jPi.mk ⟨bb_t ⟨u, by omega, by assumption, by omega⟩, rfl⟩)
theorem c_hasRoom {G : jG} (hG : cG G) (S : jMem) (o b t x y z : Int) (hk : cOK S) (ho : 0 ≤ o ∧ o < 8) (hb : 0 ≤ b ∧ b < 8) (ht : 0 ≤ t ∧ t < 6) (hx : 0 ≤ x ∧ x ≤ 20) (hy : 0 ≤ y ∧ y ≤ 20) (hz : 0 ≤ z ∧ z ≤ 20) : jM G yX4_hasRoomBeside cX4_hasRoomBeside 11 (some .boolean) 3 69 [.ref (jad G 1), .int (iI (o)), .int (iI (b)), .int (iI (t)), .int (iI (x)), .int (iI (y)), .int (iI (z))] S (jPi (fun v S' => bb (proom (S 2) (S 3) (S 4) o b t x y z) = v ∧ S = S')) := by
  refine jM.of (by decide) (Nat.le_of_ble_eq_true rfl) (fun E C R => ?_)
  show J E G 0 [(0, .ref (jad G 1)), (1, .int (iI (o))), (2, .int (iI (b))), (3, .int (iI (t))), (4, .int (iI (x))), (5, .int (iI (y))), (6, .int (iI (z)))] [] _
  have l0 := hk.2.1 0 (by omega) (by omega)
  have l1 := hk.2.1 1 (by omega) (by omega)
  have l2 := hk.2.1 2 (by omega) (by omega)
  have b0 := pext_in hk (b := b) (t := t) (a := 0) (by omega) (by omega)
  have b1 := pext_in hk (b := b) (t := t) (a := 1) (by omega) (by omega)
  have b2 := pext_in hk (b := b) (t := t) (a := 2) (by omega) (by omega)
  refine J_iload C 4 dX4_hasRoomBeside_0 rfl ?_
  refine J_aload_n C 0 dX4_hasRoomBeside_2 rfl ?_
  refine g_X4_9 hG C dX4_hasRoomBeside_3 ?_
  refine J_iconst C dX4_hasRoomBeside_6 ?_
  refine cald hG C 2 3 (by decide) dX4_hasRoomBeside_7 (by omega) (by omega) ?_
  refine J_iload C 4 dX4_hasRoomBeside_8 rfl ?_
  refine J_isub C dX4_hasRoomBeside_10 ?_
  refine J_aload_n C 0 dX4_hasRoomBeside_11 rfl ?_
  refine J_iload_n C 2 dX4_hasRoomBeside_12 rfl ?_
  refine J_iload_n C 3 dX4_hasRoomBeside_13 rfl ?_
  refine J_iconst C dX4_hasRoomBeside_14 ?_
  refine J_callV (k := 1) (rest := [.int (iI ((S 2 (0)) - (x))), .int (iI (x))]) C (c_extent hG S (b) (t) (0) (by omega) (by omega) (by omega)) kc_X4_extent kl_X4_31 (by rw [hG.2]; decide) (by rw [hG.1]; rfl) rfl dX4_hasRoomBeside_15 rfl rfl (by decide) (Nat.le_of_ble_eq_true rfl) (J_ki (fun v1 S1 h1 => ?_))
  obtain ⟨rfl, rfl⟩ := h1
  have q16 := pext_in hk (b := b) (t := t) (a := 0) (by omega) (by omega)
  refine J_isub C dX4_hasRoomBeside_18 ?_
  refine J_callS (rest := []) C (c_max hG S (x) (((S 2 (0)) - (x)) - (pext (S 3) (b) (t) (0))) (by omega) (by omega)) kc_J9_max_7cf53 kl_X4_53 dX4_hasRoomBeside_19 rfl rfl (by decide) (Nat.le_of_ble_eq_true rfl) (J_ki (fun v2 S2 h2 => ?_))
  obtain ⟨rfl, rfl⟩ := h2
  refine J_istore (lv' := [(7, .int (iI (max (x) (((S 2 (0)) - (x)) - (pext (S 3) (b) (t) (0)))))), (0, .ref (jad G 1)), (1, .int (iI (o))), (2, .int (iI (b))), (3, .int (iI (t))), (4, .int (iI (x))), (5, .int (iI (y))), (6, .int (iI (z)))]) C dX4_hasRoomBeside_22 (by decide) rfl ?_
  refine J_iload C 6 dX4_hasRoomBeside_24 rfl ?_
  refine J_aload_n C 1 dX4_hasRoomBeside_26 rfl ?_
  refine g_X4_9 hG C dX4_hasRoomBeside_27 ?_
  refine J_iconst C dX4_hasRoomBeside_30 ?_
  refine cald hG C 2 3 (by decide) dX4_hasRoomBeside_31 (by omega) (by omega) ?_
  refine J_iload C 6 dX4_hasRoomBeside_32 rfl ?_
  refine J_isub C dX4_hasRoomBeside_34 ?_
  refine J_aload_n C 1 dX4_hasRoomBeside_35 rfl ?_
  refine J_iload_n C 3 dX4_hasRoomBeside_36 rfl ?_
  refine J_iload_n C 4 dX4_hasRoomBeside_37 rfl ?_
  refine J_iconst C dX4_hasRoomBeside_38 ?_
  refine J_callV (k := 1) (rest := [.int (iI ((S 2 (1)) - (y))), .int (iI (y))]) C (c_extent hG S (b) (t) (1) (by omega) (by omega) (by omega)) kc_X4_extent kl_X4_31 (by rw [hG.2]; decide) (by rw [hG.1]; rfl) rfl dX4_hasRoomBeside_39 rfl rfl (by decide) (Nat.le_of_ble_eq_true rfl) (J_ki (fun v3 S3 h3 => ?_))
  obtain ⟨rfl, rfl⟩ := h3
  have q17 := pext_in hk (b := b) (t := t) (a := 1) (by omega) (by omega)
  refine J_isub C dX4_hasRoomBeside_42 ?_
  refine J_callS (rest := []) C (c_max hG S (y) (((S 2 (1)) - (y)) - (pext (S 3) (b) (t) (1))) (by omega) (by omega)) kc_J9_max_7cf53 kl_X4_53 dX4_hasRoomBeside_43 rfl rfl (by decide) (Nat.le_of_ble_eq_true rfl) (J_ki (fun v4 S4 h4 => ?_))
  obtain ⟨rfl, rfl⟩ := h4
  refine J_istore (lv' := [(8, .int (iI (max (y) (((S 2 (1)) - (y)) - (pext (S 3) (b) (t) (1)))))), (7, .int (iI (max (x) (((S 2 (0)) - (x)) - (pext (S 3) (b) (t) (0)))))), (0, .ref (jad G 1)), (1, .int (iI (o))), (2, .int (iI (b))), (3, .int (iI (t))), (4, .int (iI (x))), (5, .int (iI (y))), (6, .int (iI (z)))]) C dX4_hasRoomBeside_46 (by decide) rfl ?_
  refine J_iload C 8 dX4_hasRoomBeside_48 rfl ?_
  refine J_aload_n C 2 dX4_hasRoomBeside_50 rfl ?_
  refine g_X4_9 hG C dX4_hasRoomBeside_51 ?_
  refine J_iconst C dX4_hasRoomBeside_54 ?_
  refine cald hG C 2 3 (by decide) dX4_hasRoomBeside_55 (by omega) (by omega) ?_
  refine J_iload C 8 dX4_hasRoomBeside_56 rfl ?_
  refine J_isub C dX4_hasRoomBeside_58 ?_
  refine J_aload_n C 2 dX4_hasRoomBeside_59 rfl ?_
  refine J_iload_n C 4 dX4_hasRoomBeside_60 rfl ?_
  refine J_iload_n C 5 dX4_hasRoomBeside_61 rfl ?_
  refine J_iconst C dX4_hasRoomBeside_62 ?_
  refine J_callV (k := 1) (rest := [.int (iI ((S 2 (2)) - (z))), .int (iI (z))]) C (c_extent hG S (b) (t) (2) (by omega) (by omega) (by omega)) kc_X4_extent kl_X4_31 (by rw [hG.2]; decide) (by rw [hG.1]; rfl) rfl dX4_hasRoomBeside_63 rfl rfl (by decide) (Nat.le_of_ble_eq_true rfl) (J_ki (fun v5 S5 h5 => ?_))
  obtain ⟨rfl, rfl⟩ := h5
  have q18 := pext_in hk (b := b) (t := t) (a := 2) (by omega) (by omega)
  refine J_isub C dX4_hasRoomBeside_66 ?_
  refine J_callS (rest := []) C (c_max hG S (z) (((S 2 (2)) - (z)) - (pext (S 3) (b) (t) (2))) (by omega) (by omega)) kc_J9_max_7cf53 kl_X4_53 dX4_hasRoomBeside_67 rfl rfl (by decide) (Nat.le_of_ble_eq_true rfl) (J_ki (fun v6 S6 h6 => ?_))
  obtain ⟨rfl, rfl⟩ := h6
  refine J_istore (lv' := [(9, .int (iI (max (z) (((S 2 (2)) - (z)) - (pext (S 3) (b) (t) (2)))))), (8, .int (iI (max (y) (((S 2 (1)) - (y)) - (pext (S 3) (b) (t) (1)))))), (7, .int (iI (max (x) (((S 2 (0)) - (x)) - (pext (S 3) (b) (t) (0)))))), (0, .ref (jad G 1)), (1, .int (iI (o))), (2, .int (iI (b))), (3, .int (iI (t))), (4, .int (iI (x))), (5, .int (iI (y))), (6, .int (iI (z)))]) C dX4_hasRoomBeside_70 (by decide) rfl ?_
  refine J_iconst C dX4_hasRoomBeside_72 ?_
  refine J_istore (lv' := [(10, .int (iI (0))), (9, .int (iI (max (z) (((S 2 (2)) - (z)) - (pext (S 3) (b) (t) (2)))))), (8, .int (iI (max (y) (((S 2 (1)) - (y)) - (pext (S 3) (b) (t) (1)))))), (7, .int (iI (max (x) (((S 2 (0)) - (x)) - (pext (S 3) (b) (t) (0)))))), (0, .ref (jad G 1)), (1, .int (iI (o))), (2, .int (iI (b))), (3, .int (iI (t))), (4, .int (iI (x))), (5, .int (iI (y))), (6, .int (iI (z)))]) C dX4_hasRoomBeside_73 (by decide) rfl ?_
  refine J_lv [4, 5, 3, 2, 1, 0] rfl ?_
  exact l_room hG C S o b t x y z hk ho hb ht hx hy hz R _ 0 rfl ⟨by omega, fun u2 h1 h2 => by omega⟩
