theorem m_sideOf {G : jG} (hG : mG G) (S : jMem) (t a : Int) (ht : 0 ≤ t ∧ t < 6) (ha : 0 ≤ a ∧ a < 3) : jM G yX6_sideOf cX6_sideOf 3 (some .int) 0 0 [.int (iI (t)), .int (iI (a))] S (jPi (fun v S' => sd2 t a = v ∧ S = S')) := by
  refine jM.of (by decide) (Nat.le_of_ble_eq_true rfl) (fun E C R => ?_)
  show J E G 0 [(0, .int (iI (t))), (1, .int (iI (a)))] [] _
  refine J_iload_n C 0 dX6_sideOf_0 rfl ?_
  refine J_if_ne C 9 dX6_sideOf_1 (by decide) (by omega) (fun h1 => ?_) (fun h1 => ?_)
  · refine J_iload_n C 0 dX6_sideOf_9 rfl ?_
    refine J_iconst C dX6_sideOf_10 ?_
    refine J_icmp_ne C 19 dX6_sideOf_11 (by decide) (by omega) (by omega) (fun h2 => ?_) (fun h2 => ?_)
    · refine J_iload_n C 0 dX6_sideOf_19 rfl ?_
      refine J_iconst C dX6_sideOf_20 ?_
      refine J_icmp_ne C 29 dX6_sideOf_21 (by decide) (by omega) (by omega) (fun h3 => ?_) (fun h3 => ?_)
      · refine J_iload_n C 0 dX6_sideOf_29 rfl ?_
        refine J_iconst C dX6_sideOf_30 ?_
        refine J_icmp_ne C 39 dX6_sideOf_31 (by decide) (by omega) (by omega) (fun h4 => ?_) (fun h4 => ?_)
        · refine J_iload_n C 0 dX6_sideOf_39 rfl ?_
          refine J_iconst C dX6_sideOf_40 ?_
          refine J_icmp_ne C 50 dX6_sideOf_41 (by decide) (by omega) (by omega) (fun h5 => ?_) (fun h5 => ?_)
          · refine J_sipush C dX6_sideOf_50 (by decide) ?_
            refine J_istore_n (lv' := [(2, .int (iI (210))), (0, .int (iI (t))), (1, .int (iI (a)))]) C dX6_sideOf_53 (by decide) rfl ?_
            refine J_iload_n C 2 dX6_sideOf_54 rfl ?_
            refine J_if_ne C 65 dX6_sideOf_55 (by decide) (by omega) (fun h6 => ?_) (fun h6 => ?_)
            · refine J_iload_n C 2 dX6_sideOf_65 rfl ?_
              refine J_iconst C dX6_sideOf_66 ?_
              refine J_icmp_ne C 80 dX6_sideOf_67 (by decide) (by omega) (by omega) (fun h7 => ?_) (fun h7 => ?_)
              · refine J_iload_n C 0 dX6_sideOf_80 rfl ?_
                refine J_bipush C dX6_sideOf_81 (by decide) ?_
                refine J_irem C dX6_sideOf_83 (by omega) (by omega) (by omega) (by omega) ?_
                exact J_iret R C dX6_sideOf_84 (jPi.mk ⟨by unfold sd2; (repeat first | rw [if_pos (by omega)] | rw [if_neg (by omega)]), rfl⟩)
              · refine J_iload_n C 0 dX6_sideOf_70 rfl ?_
                refine J_bipush C dX6_sideOf_71 (by decide) ?_
                refine J_idiv C dX6_sideOf_73 (by omega) (by omega) (by omega) (by omega) ?_
                refine J_bipush C dX6_sideOf_74 (by decide) ?_
                refine J_irem C dX6_sideOf_76 (by omega) (by omega) (by omega) (by omega) ?_
                refine J_goto C 84 dX6_sideOf_77 (by decide) ?_
                exact J_iret R C dX6_sideOf_84 (jPi.mk ⟨by unfold sd2; (repeat first | rw [if_pos (by omega)] | rw [if_neg (by omega)]), rfl⟩)
            · refine J_iload_n C 0 dX6_sideOf_58 rfl ?_
              refine J_bipush C dX6_sideOf_59 (by decide) ?_
              refine J_idiv C dX6_sideOf_61 (by omega) (by omega) (by omega) (by omega) ?_
              refine J_goto C 84 dX6_sideOf_62 (by decide) ?_
              exact J_iret R C dX6_sideOf_84 (jPi.mk ⟨by unfold sd2; (repeat first | rw [if_pos (by omega)] | rw [if_neg (by omega)]), rfl⟩)
          · refine J_sipush C dX6_sideOf_44 (by decide) ?_
            refine J_goto C 53 dX6_sideOf_47 (by decide) ?_
            refine J_istore_n (lv' := [(2, .int (iI (201))), (0, .int (iI (t))), (1, .int (iI (a)))]) C dX6_sideOf_53 (by decide) rfl ?_
            refine J_iload_n C 2 dX6_sideOf_54 rfl ?_
            refine J_if_ne C 65 dX6_sideOf_55 (by decide) (by omega) (fun h8 => ?_) (fun h8 => ?_)
            · refine J_iload_n C 2 dX6_sideOf_65 rfl ?_
              refine J_iconst C dX6_sideOf_66 ?_
              refine J_icmp_ne C 80 dX6_sideOf_67 (by decide) (by omega) (by omega) (fun h9 => ?_) (fun h9 => ?_)
              · refine J_iload_n C 0 dX6_sideOf_80 rfl ?_
                refine J_bipush C dX6_sideOf_81 (by decide) ?_
                refine J_irem C dX6_sideOf_83 (by omega) (by omega) (by omega) (by omega) ?_
                exact J_iret R C dX6_sideOf_84 (jPi.mk ⟨by unfold sd2; (repeat first | rw [if_pos (by omega)] | rw [if_neg (by omega)]), rfl⟩)
              · refine J_iload_n C 0 dX6_sideOf_70 rfl ?_
                refine J_bipush C dX6_sideOf_71 (by decide) ?_
                refine J_idiv C dX6_sideOf_73 (by omega) (by omega) (by omega) (by omega) ?_
                refine J_bipush C dX6_sideOf_74 (by decide) ?_
                refine J_irem C dX6_sideOf_76 (by omega) (by omega) (by omega) (by omega) ?_
                refine J_goto C 84 dX6_sideOf_77 (by decide) ?_
                exact J_iret R C dX6_sideOf_84 (jPi.mk ⟨by unfold sd2; (repeat first | rw [if_pos (by omega)] | rw [if_neg (by omega)]), rfl⟩)
            · refine J_iload_n C 0 dX6_sideOf_58 rfl ?_
              refine J_bipush C dX6_sideOf_59 (by decide) ?_
              refine J_idiv C dX6_sideOf_61 (by omega) (by omega) (by omega) (by omega) ?_
              refine J_goto C 84 dX6_sideOf_62 (by decide) ?_
              exact J_iret R C dX6_sideOf_84 (jPi.mk ⟨by unfold sd2; (repeat first | rw [if_pos (by omega)] | rw [if_neg (by omega)]), rfl⟩)
        · refine J_bipush C dX6_sideOf_34 (by decide) ?_
          refine J_goto C 53 dX6_sideOf_36 (by decide) ?_
          refine J_istore_n (lv' := [(2, .int (iI (120))), (0, .int (iI (t))), (1, .int (iI (a)))]) C dX6_sideOf_53 (by decide) rfl ?_
          refine J_iload_n C 2 dX6_sideOf_54 rfl ?_
          refine J_if_ne C 65 dX6_sideOf_55 (by decide) (by omega) (fun h10 => ?_) (fun h10 => ?_)
          · refine J_iload_n C 2 dX6_sideOf_65 rfl ?_
            refine J_iconst C dX6_sideOf_66 ?_
            refine J_icmp_ne C 80 dX6_sideOf_67 (by decide) (by omega) (by omega) (fun h11 => ?_) (fun h11 => ?_)
            · refine J_iload_n C 0 dX6_sideOf_80 rfl ?_
              refine J_bipush C dX6_sideOf_81 (by decide) ?_
              refine J_irem C dX6_sideOf_83 (by omega) (by omega) (by omega) (by omega) ?_
              exact J_iret R C dX6_sideOf_84 (jPi.mk ⟨by unfold sd2; (repeat first | rw [if_pos (by omega)] | rw [if_neg (by omega)]), rfl⟩)
            · refine J_iload_n C 0 dX6_sideOf_70 rfl ?_
              refine J_bipush C dX6_sideOf_71 (by decide) ?_
              refine J_idiv C dX6_sideOf_73 (by omega) (by omega) (by omega) (by omega) ?_
              refine J_bipush C dX6_sideOf_74 (by decide) ?_
              refine J_irem C dX6_sideOf_76 (by omega) (by omega) (by omega) (by omega) ?_
              refine J_goto C 84 dX6_sideOf_77 (by decide) ?_
              exact J_iret R C dX6_sideOf_84 (jPi.mk ⟨by unfold sd2; (repeat first | rw [if_pos (by omega)] | rw [if_neg (by omega)]), rfl⟩)
          · refine J_iload_n C 0 dX6_sideOf_58 rfl ?_
            refine J_bipush C dX6_sideOf_59 (by decide) ?_
            refine J_idiv C dX6_sideOf_61 (by omega) (by omega) (by omega) (by omega) ?_
            refine J_goto C 84 dX6_sideOf_62 (by decide) ?_
            exact J_iret R C dX6_sideOf_84 (jPi.mk ⟨by unfold sd2; (repeat first | rw [if_pos (by omega)] | rw [if_neg (by omega)]), rfl⟩)
      · refine J_bipush C dX6_sideOf_24 (by decide) ?_
        refine J_goto C 53 dX6_sideOf_26 (by decide) ?_
        refine J_istore_n (lv' := [(2, .int (iI (102))), (0, .int (iI (t))), (1, .int (iI (a)))]) C dX6_sideOf_53 (by decide) rfl ?_
        refine J_iload_n C 2 dX6_sideOf_54 rfl ?_
        refine J_if_ne C 65 dX6_sideOf_55 (by decide) (by omega) (fun h12 => ?_) (fun h12 => ?_)
        · refine J_iload_n C 2 dX6_sideOf_65 rfl ?_
          refine J_iconst C dX6_sideOf_66 ?_
          refine J_icmp_ne C 80 dX6_sideOf_67 (by decide) (by omega) (by omega) (fun h13 => ?_) (fun h13 => ?_)
          · refine J_iload_n C 0 dX6_sideOf_80 rfl ?_
            refine J_bipush C dX6_sideOf_81 (by decide) ?_
            refine J_irem C dX6_sideOf_83 (by omega) (by omega) (by omega) (by omega) ?_
            exact J_iret R C dX6_sideOf_84 (jPi.mk ⟨by unfold sd2; (repeat first | rw [if_pos (by omega)] | rw [if_neg (by omega)]), rfl⟩)
          · refine J_iload_n C 0 dX6_sideOf_70 rfl ?_
            refine J_bipush C dX6_sideOf_71 (by decide) ?_
            refine J_idiv C dX6_sideOf_73 (by omega) (by omega) (by omega) (by omega) ?_
            refine J_bipush C dX6_sideOf_74 (by decide) ?_
            refine J_irem C dX6_sideOf_76 (by omega) (by omega) (by omega) (by omega) ?_
            refine J_goto C 84 dX6_sideOf_77 (by decide) ?_
            exact J_iret R C dX6_sideOf_84 (jPi.mk ⟨by unfold sd2; (repeat first | rw [if_pos (by omega)] | rw [if_neg (by omega)]), rfl⟩)
        · refine J_iload_n C 0 dX6_sideOf_58 rfl ?_
          refine J_bipush C dX6_sideOf_59 (by decide) ?_
          refine J_idiv C dX6_sideOf_61 (by omega) (by omega) (by omega) (by omega) ?_
          refine J_goto C 84 dX6_sideOf_62 (by decide) ?_
          exact J_iret R C dX6_sideOf_84 (jPi.mk ⟨by unfold sd2; (repeat first | rw [if_pos (by omega)] | rw [if_neg (by omega)]), rfl⟩)
    · refine J_bipush C dX6_sideOf_14 (by decide) ?_
      refine J_goto C 53 dX6_sideOf_16 (by decide) ?_
      refine J_istore_n (lv' := [(2, .int (iI (21))), (0, .int (iI (t))), (1, .int (iI (a)))]) C dX6_sideOf_53 (by decide) rfl ?_
      refine J_iload_n C 2 dX6_sideOf_54 rfl ?_
      refine J_if_ne C 65 dX6_sideOf_55 (by decide) (by omega) (fun h14 => ?_) (fun h14 => ?_)
      · refine J_iload_n C 2 dX6_sideOf_65 rfl ?_
        refine J_iconst C dX6_sideOf_66 ?_
        refine J_icmp_ne C 80 dX6_sideOf_67 (by decide) (by omega) (by omega) (fun h15 => ?_) (fun h15 => ?_)
        · refine J_iload_n C 0 dX6_sideOf_80 rfl ?_
          refine J_bipush C dX6_sideOf_81 (by decide) ?_
          refine J_irem C dX6_sideOf_83 (by omega) (by omega) (by omega) (by omega) ?_
          exact J_iret R C dX6_sideOf_84 (jPi.mk ⟨by unfold sd2; (repeat first | rw [if_pos (by omega)] | rw [if_neg (by omega)]), rfl⟩)
        · refine J_iload_n C 0 dX6_sideOf_70 rfl ?_
          refine J_bipush C dX6_sideOf_71 (by decide) ?_
          refine J_idiv C dX6_sideOf_73 (by omega) (by omega) (by omega) (by omega) ?_
          refine J_bipush C dX6_sideOf_74 (by decide) ?_
          refine J_irem C dX6_sideOf_76 (by omega) (by omega) (by omega) (by omega) ?_
          refine J_goto C 84 dX6_sideOf_77 (by decide) ?_
          exact J_iret R C dX6_sideOf_84 (jPi.mk ⟨by unfold sd2; (repeat first | rw [if_pos (by omega)] | rw [if_neg (by omega)]), rfl⟩)
      · refine J_iload_n C 0 dX6_sideOf_58 rfl ?_
        refine J_bipush C dX6_sideOf_59 (by decide) ?_
        refine J_idiv C dX6_sideOf_61 (by omega) (by omega) (by omega) (by omega) ?_
        refine J_goto C 84 dX6_sideOf_62 (by decide) ?_
        exact J_iret R C dX6_sideOf_84 (jPi.mk ⟨by unfold sd2; (repeat first | rw [if_pos (by omega)] | rw [if_neg (by omega)]), rfl⟩)
  · refine J_bipush C dX6_sideOf_4 (by decide) ?_
    refine J_goto C 53 dX6_sideOf_6 (by decide) ?_
    refine J_istore_n (lv' := [(2, .int (iI (12))), (0, .int (iI (t))), (1, .int (iI (a)))]) C dX6_sideOf_53 (by decide) rfl ?_
    refine J_iload_n C 2 dX6_sideOf_54 rfl ?_
    refine J_if_ne C 65 dX6_sideOf_55 (by decide) (by omega) (fun h16 => ?_) (fun h16 => ?_)
    · refine J_iload_n C 2 dX6_sideOf_65 rfl ?_
      refine J_iconst C dX6_sideOf_66 ?_
      refine J_icmp_ne C 80 dX6_sideOf_67 (by decide) (by omega) (by omega) (fun h17 => ?_) (fun h17 => ?_)
      · refine J_iload_n C 0 dX6_sideOf_80 rfl ?_
        refine J_bipush C dX6_sideOf_81 (by decide) ?_
        refine J_irem C dX6_sideOf_83 (by omega) (by omega) (by omega) (by omega) ?_
        exact J_iret R C dX6_sideOf_84 (jPi.mk ⟨by unfold sd2; (repeat first | rw [if_pos (by omega)] | rw [if_neg (by omega)]), rfl⟩)
      · refine J_iload_n C 0 dX6_sideOf_70 rfl ?_
        refine J_bipush C dX6_sideOf_71 (by decide) ?_
        refine J_idiv C dX6_sideOf_73 (by omega) (by omega) (by omega) (by omega) ?_
        refine J_bipush C dX6_sideOf_74 (by decide) ?_
        refine J_irem C dX6_sideOf_76 (by omega) (by omega) (by omega) (by omega) ?_
        refine J_goto C 84 dX6_sideOf_77 (by decide) ?_
        exact J_iret R C dX6_sideOf_84 (jPi.mk ⟨by unfold sd2; (repeat first | rw [if_pos (by omega)] | rw [if_neg (by omega)]), rfl⟩)
    · refine J_iload_n C 0 dX6_sideOf_58 rfl ?_
      refine J_bipush C dX6_sideOf_59 (by decide) ?_
      refine J_idiv C dX6_sideOf_61 (by omega) (by omega) (by omega) (by omega) ?_
      refine J_goto C 84 dX6_sideOf_62 (by decide) ?_
      exact J_iret R C dX6_sideOf_84 (jPi.mk ⟨by unfold sd2; (repeat first | rw [if_pos (by omega)] | rw [if_neg (by omega)]), rfl⟩)
theorem m_extent {G : jG} (hG : mG G) (S : jMem) (b t a : Int) (hb : 0 ≤ b ∧ b < 8) (ht : 0 ≤ t ∧ t < 6) (ha : 0 ≤ a ∧ a < 3) : jM G yX6_extent cX6_extent 4 (some .int) 1 22 [.ref (jad G 0), .int (iI (b)), .int (iI (t)), .int (iI (a))] S (jPi (fun v S' => pext (S 2) b t a = v ∧ S = S')) := by
  refine jM.of (by decide) (Nat.le_of_ble_eq_true rfl) (fun E C R => ?_)
  show J E G 0 [(0, .ref (jad G 0)), (1, .int (iI (b))), (2, .int (iI (t))), (3, .int (iI (a)))] [] _
  have hs := sd_in (t * 3 + a)
  have he := sd2_eq ht ha
  refine J_aload_n C 0 dX6_extent_0 rfl ?_
  refine g_X6_13 hG C dX6_extent_1 ?_
  refine J_iconst C dX6_extent_4 ?_
  refine J_iload_n C 1 dX6_extent_5 rfl ?_
  refine J_imul C dX6_extent_6 ?_
  refine J_iload_n C 2 dX6_extent_7 rfl ?_
  refine J_iload_n C 3 dX6_extent_8 rfl ?_
  refine J_callS (rest := [.int (iI ((3) * (b))), .ref (jad G 2)]) C (m_sideOf hG S (t) (a) (by omega) (by omega)) kc_X6_sideOf kl_X6_77 dX6_extent_9 rfl rfl (by decide) (Nat.le_of_ble_eq_true rfl) (J_ki (fun v1 S1 h1 => ?_))
  obtain ⟨rfl, rfl⟩ := h1
  refine J_iadd C dX6_extent_12 ?_
  refine mald hG C 2 24 (by decide) dX6_extent_13 (by omega) (by omega) ?_
  exact J_iret R C dX6_extent_14 (jPi.mk ⟨by unfold pext; rw [he, Int.mul_comm b 3], rfl⟩)
theorem m_has {G : jG} (hG : mG G) (S : jMem) (b t : Int) (hk : mOK S) (hb : 0 ≤ b ∧ b < 8) (ht : 0 ≤ t ∧ t < 6) : jM G yX6_has cX6_has 3 (some .boolean) 0 0 [.ref (jad G 0), .int (iI (b)), .int (iI (t))] S (jPi (fun v S' => bb (phas (S 4) b t) = v ∧ S = S')) := by
  refine jM.of (by decide) (Nat.le_of_ble_eq_true rfl) (fun E C R => ?_)
  show J E G 0 [(0, .ref (jad G 0)), (1, .int (iI (b))), (2, .int (iI (t)))] [] _
  have h4 := hk.2.2.2.2.1 b (by omega) (by omega)
  have h5 := zdiv_in h4.1 t.toNat
  refine J_aload_n C 0 dX6_has_0 rfl ?_
  refine g_X6_19 hG C dX6_has_1 ?_
  refine J_iload_n C 1 dX6_has_4 rfl ?_
  refine mald hG C 4 8 (by decide) dX6_has_5 (by omega) (by omega) ?_
  refine J_iload_n C 2 dX6_has_6 rfl ?_
  refine J_ishr C dX6_has_7 (by omega) (by omega) (by omega) ?_
  refine J_iconst C dX6_has_8 ?_
  refine J_iand C (((S 4 (b)) / 2 ^ (t).toNat) % 2) dX6_has_9 (iI_and1 _ (by omega)) ?_
  refine J_iconst C dX6_has_10 ?_
  refine J_icmp_ne C 18 dX6_has_11 (by decide) (by omega) (by omega) (fun h1 => ?_) (fun h1 => ?_)
  · refine J_iconst C dX6_has_18 ?_
    exact J_zret R C dX6_has_19 (by first | exact Or.inl rfl | exact Or.inr rfl | omega) (jPi.mk ⟨by first | exact bb_t (by assumption) | exact bb_f (by assumption), rfl⟩)
  · refine J_iconst C dX6_has_14 ?_
    refine J_goto C 19 dX6_has_15 (by decide) ?_
    exact J_zret R C dX6_has_19 (by first | exact Or.inl rfl | exact Or.inr rfl | omega) (jPi.mk ⟨by first | exact bb_t (by assumption) | exact bb_f (by assumption), rfl⟩)
theorem m_volume {G : jG} (hG : mG G) (S : jMem) (b : Int) (hb : 0 ≤ b ∧ b < 8) : jM G yX6_volume cX6_volume 2 (some .int) 0 0 [.ref (jad G 0), .int (iI (b))] S (jPi (fun v S' => S 2 (3 * b) * S 2 (3 * b + 1) * S 2 (3 * b + 2) = v ∧ S = S')) := by
  refine jM.of (by decide) (Nat.le_of_ble_eq_true rfl) (fun E C R => ?_)
  show J E G 0 [(0, .ref (jad G 0)), (1, .int (iI (b)))] [] _
  refine J_aload_n C 0 dX6_volume_0 rfl ?_
  refine g_X6_13 hG C dX6_volume_1 ?_
  refine J_iconst C dX6_volume_4 ?_
  refine J_iload_n C 1 dX6_volume_5 rfl ?_
  refine J_imul C dX6_volume_6 ?_
  refine mald hG C 2 24 (by decide) dX6_volume_7 (by omega) (by omega) ?_
  refine J_aload_n C 0 dX6_volume_8 rfl ?_
  refine g_X6_13 hG C dX6_volume_9 ?_
  refine J_iconst C dX6_volume_12 ?_
  refine J_iload_n C 1 dX6_volume_13 rfl ?_
  refine J_imul C dX6_volume_14 ?_
  refine J_iconst C dX6_volume_15 ?_
  refine J_iadd C dX6_volume_16 ?_
  refine mald hG C 2 24 (by decide) dX6_volume_17 (by omega) (by omega) ?_
  refine J_imul C dX6_volume_18 ?_
  refine J_aload_n C 0 dX6_volume_19 rfl ?_
  refine g_X6_13 hG C dX6_volume_20 ?_
  refine J_iconst C dX6_volume_23 ?_
  refine J_iload_n C 1 dX6_volume_24 rfl ?_
  refine J_imul C dX6_volume_25 ?_
  refine J_iconst C dX6_volume_26 ?_
  refine J_iadd C dX6_volume_27 ?_
  refine mald hG C 2 24 (by decide) dX6_volume_28 (by omega) (by omega) ?_
  refine J_imul C dX6_volume_29 ?_
  exact J_iret R C dX6_volume_30 (jPi.mk ⟨by rfl, rfl⟩)
theorem m_isSide {G : jG} (hG : mG G) (S : jMem) (a : Int) (ha : inR a) : jM G yX6_isSide cX6_isSide 1 (some .boolean) 0 0 [.int (iI (a))] S (jPi (fun v S' => bb (1 ≤ a ∧ a ≤ 20) = v ∧ S = S')) := by
  refine jM.of (by decide) (Nat.le_of_ble_eq_true rfl) (fun E C R => ?_)
  show J E G 0 [(0, .int (iI (a)))] [] _
  refine J_iload_n C 0 dX6_isSide_0 rfl ?_
  refine J_iconst C dX6_isSide_1 ?_
  refine J_icmp_lt C 15 dX6_isSide_2 (by decide) (by omega) (by omega) (fun h1 => ?_) (fun h1 => ?_)
  · refine J_iconst C dX6_isSide_15 ?_
    exact J_zret R C dX6_isSide_16 (by first | exact Or.inl rfl | exact Or.inr rfl | omega) (jPi.mk ⟨by first | exact bb_t (by omega) | exact bb_f (by omega), rfl⟩)
  · refine J_iload_n C 0 dX6_isSide_5 rfl ?_
    refine J_bipush C dX6_isSide_6 (by decide) ?_
    refine J_icmp_gt C 15 dX6_isSide_8 (by decide) (by omega) (by omega) (fun h2 => ?_) (fun h2 => ?_)
    · refine J_iconst C dX6_isSide_15 ?_
      exact J_zret R C dX6_isSide_16 (by first | exact Or.inl rfl | exact Or.inr rfl | omega) (jPi.mk ⟨by first | exact bb_t (by omega) | exact bb_f (by omega), rfl⟩)
    · refine J_iconst C dX6_isSide_11 ?_
      refine J_goto C 16 dX6_isSide_12 (by decide) ?_
      exact J_zret R C dX6_isSide_16 (by first | exact Or.inl rfl | exact Or.inr rfl | omega) (jPi.mk ⟨by first | exact bb_t (by omega) | exact bb_f (by omega), rfl⟩)
theorem m_isBox {G : jG} (hG : mG G) (S : jMem) (b : Int) (hn : 0 ≤ S 0 1 ∧ S 0 1 ≤ 8) (hb : inR b) : jM G yX6_isBox cX6_isBox 2 (some .boolean) 0 0 [.ref (jad G 0), .int (iI (b))] S (jPi (fun v S' => bb (0 ≤ b ∧ b < S 0 1) = v ∧ S = S')) := by
  refine jM.of (by decide) (Nat.le_of_ble_eq_true rfl) (fun E C R => ?_)
  show J E G 0 [(0, .ref (jad G 0)), (1, .int (iI (b)))] [] _
  refine J_iload_n C 1 dX6_isBox_0 rfl ?_
  refine J_if_lt C 16 dX6_isBox_1 (by decide) (by omega) (fun h1 => ?_) (fun h1 => ?_)
  · refine J_iconst C dX6_isBox_16 ?_
    exact J_zret R C dX6_isBox_17 (by first | exact Or.inl rfl | exact Or.inr rfl | omega) (jPi.mk ⟨by first | exact bb_t (by omega) | exact bb_f (by omega), rfl⟩)
  · refine J_iload_n C 1 dX6_isBox_4 rfl ?_
    refine J_aload_n C 0 dX6_isBox_5 rfl ?_
    refine g_X6_81 hG C dX6_isBox_6 ?_
    refine J_icmp_ge C 16 dX6_isBox_9 (by decide) (by omega) (by omega) (fun h2 => ?_) (fun h2 => ?_)
    · refine J_iconst C dX6_isBox_16 ?_
      exact J_zret R C dX6_isBox_17 (by first | exact Or.inl rfl | exact Or.inr rfl | omega) (jPi.mk ⟨by first | exact bb_t (by omega) | exact bb_f (by omega), rfl⟩)
    · refine J_iconst C dX6_isBox_12 ?_
      refine J_goto C 17 dX6_isBox_13 (by decide) ?_
      exact J_zret R C dX6_isBox_17 (by first | exact Or.inl rfl | exact Or.inr rfl | omega) (jPi.mk ⟨by first | exact bb_t (by omega) | exact bb_f (by omega), rfl⟩)
theorem m_isDual {G : jG} (hG : mG G) (S : jMem) (a n : Int) (hk : mOK S) (ha : 0 ≤ a ∧ a < 3) (hn : inR n) : jM G yX6_isDual cX6_isDual 3 (some .boolean) 0 0 [.ref (jad G 0), .int (iI (a)), .int (iI (n))] S (jPi (fun v S' => bb (0 ≤ n ∧ n ≤ S 1 a / 2 * 2) = v ∧ S = S')) := by
  refine jM.of (by decide) (Nat.le_of_ble_eq_true rfl) (fun E C R => ?_)
  show J E G 0 [(0, .ref (jad G 0)), (1, .int (iI (a))), (2, .int (iI (n)))] [] _
  refine J_iload_n C 2 dX6_isDual_0 rfl ?_
  refine J_if_lt C 22 dX6_isDual_1 (by decide) (by omega) (fun h1 => ?_) (fun h1 => ?_)
  · refine J_iconst C dX6_isDual_22 ?_
    exact J_zret R C dX6_isDual_23 (by first | exact Or.inl rfl | exact Or.inr rfl | omega) (jPi.mk ⟨by first | exact bb_t (by omega) | exact bb_f (by omega), rfl⟩)
  · refine J_iload_n C 2 dX6_isDual_4 rfl ?_
    refine J_aload_n C 0 dX6_isDual_5 rfl ?_
    refine g_X6_7 hG C dX6_isDual_6 ?_
    refine J_iload_n C 1 dX6_isDual_9 rfl ?_
    refine mald hG C 1 3 (by decide) dX6_isDual_10 (by omega) (by omega) ?_
    have m2 := hk.2.1 (a) (by omega) (by omega)
    refine J_iconst C dX6_isDual_11 ?_
    refine J_idiv C dX6_isDual_12 (by omega) (by omega) (by omega) (by omega) ?_
    refine J_iconst C dX6_isDual_13 ?_
    refine J_imul C dX6_isDual_14 ?_
    refine J_icmp_gt C 22 dX6_isDual_15 (by decide) (by omega) (by omega) (fun h3 => ?_) (fun h3 => ?_)
    · refine J_iconst C dX6_isDual_22 ?_
      exact J_zret R C dX6_isDual_23 (by first | exact Or.inl rfl | exact Or.inr rfl | omega) (jPi.mk ⟨by first | exact bb_t (by omega) | exact bb_f (by omega), rfl⟩)
    · refine J_iconst C dX6_isDual_18 ?_
      refine J_goto C 23 dX6_isDual_19 (by decide) ?_
      exact J_zret R C dX6_isDual_23 (by first | exact Or.inl rfl | exact Or.inr rfl | omega) (jPi.mk ⟨by first | exact bb_t (by omega) | exact bb_f (by omega), rfl⟩)
theorem m_worth {G : jG} (hG : mG G) (S : jMem) (L n x : Int) (hL : 1 ≤ L ∧ L ≤ 20) (hn : 0 ≤ n ∧ n ≤ L / 2 * 2) (hx : 0 ≤ x ∧ x ≤ L) : jM G yX6_worth cX6_worth 6 (some .int) 0 0 [.int (iI (L)), .int (iI (n)), .int (iI (x))] S (jPi (fun v S' => pworth L n x = v ∧ S = S')) := by
  refine jM.of (by decide) (Nat.le_of_ble_eq_true rfl) (fun E C R => ?_)
  show J E G 0 [(0, .int (iI (L))), (1, .int (iI (n))), (2, .int (iI (x)))] [] _
  refine J_iload_n C 0 dX6_worth_0 rfl ?_
  refine J_iconst C dX6_worth_1 ?_
  refine J_idiv C dX6_worth_2 (by omega) (by omega) (by omega) (by omega) ?_
  refine J_istore_n (lv' := [(3, .int (iI ((L) / (2)))), (0, .int (iI (L))), (1, .int (iI (n))), (2, .int (iI (x)))]) C dX6_worth_3 (by decide) rfl ?_
  refine J_iload_n C 2 dX6_worth_4 rfl ?_
  refine J_if_ne C 10 dX6_worth_5 (by decide) (by omega) (fun h1 => ?_) (fun h1 => ?_)
  · refine J_iload_n C 2 dX6_worth_10 rfl ?_
    refine J_iload_n C 0 dX6_worth_11 rfl ?_
    refine J_icmp_gt C 37 dX6_worth_12 (by decide) (by omega) (by omega) (fun h2 => ?_) (fun h2 => ?_)
    · refine J_iload_n C 2 dX6_worth_37 rfl ?_
      refine J_iload_n C 0 dX6_worth_38 rfl ?_
      refine J_isub C dX6_worth_39 ?_
      refine J_istore (lv' := [(4, .int (iI ((n) - ((L) / (2))))), (3, .int (iI ((L) / (2)))), (0, .int (iI (L))), (1, .int (iI (n))), (2, .int (iI (x)))]) C dX6_worth_40 (by decide) rfl ?_
      refine J_iload_n C 2 dX6_worth_42 rfl ?_
      refine J_iload C 0 dX6_worth_43 rfl ?_
      refine J_idiv C dX6_worth_45 (by omega) (by omega) (by omega) (by omega) ?_
      refine J_istore (lv' := [(5, .int (iI ((L) / ((n) - ((L) / (2)))))), (4, .int (iI ((n) - ((L) / (2))))), (3, .int (iI ((L) / (2)))), (0, .int (iI (L))), (1, .int (iI (n))), (2, .int (iI (x)))]) C dX6_worth_46 (by decide) rfl ?_
      refine J_iconst C dX6_worth_48 ?_
      refine J_iload_n C 5 dX6_worth_49 rfl ?_
      refine J_imul C dX6_worth_50 ?_
      refine J_iload_n C 3 dX6_worth_51 rfl ?_
      refine J_icmp_ge C 64 dX6_worth_52 (by decide) (by omega) (by omega) (fun h3 => ?_) (fun h3 => ?_)
      · refine J_iconst C dX6_worth_64 ?_
        refine J_iload_n C 5 dX6_worth_65 rfl ?_
        refine J_imul C dX6_worth_66 ?_
        refine J_iload_n C 3 dX6_worth_67 rfl ?_
        refine J_icmp_ne C 76 dX6_worth_68 (by decide) (by omega) (by omega) (fun h4 => ?_) (fun h4 => ?_)
        · refine J_iconst C dX6_worth_76 ?_
          refine J_iload C 0 dX6_worth_77 rfl ?_
          refine J_iload_n C 3 dX6_worth_79 rfl ?_
          refine J_iload_n C 5 dX6_worth_80 rfl ?_
          refine J_isub C dX6_worth_81 ?_
          refine J_iload C 1 dX6_worth_82 rfl ?_
          refine J_idiv C dX6_worth_84 (by omega) (by omega) (by omega) (by omega) ?_
          refine J_isub C dX6_worth_85 ?_
          refine J_imul C dX6_worth_86 ?_
          exact J_iret R C dX6_worth_87 (jPi.mk ⟨by unfold pworth; (repeat first | rw [if_pos (by omega)] | rw [if_neg (by omega)]); try omega, rfl⟩)
        · refine J_iload C 0 dX6_worth_71 rfl ?_
          refine J_goto C 87 dX6_worth_73 (by decide) ?_
          exact J_iret R C dX6_worth_87 (jPi.mk ⟨by unfold pworth; (repeat first | rw [if_pos (by omega)] | rw [if_neg (by omega)]); try omega, rfl⟩)
      · refine J_iconst C dX6_worth_55 ?_
        refine J_iload_n C 5 dX6_worth_56 rfl ?_
        refine J_iload C 1 dX6_worth_57 rfl ?_
        refine J_idiv C dX6_worth_59 (by omega) (by omega) (by omega) (by omega) ?_
        refine J_imul C dX6_worth_60 ?_
        refine J_goto C 87 dX6_worth_61 (by decide) ?_
        exact J_iret R C dX6_worth_87 (jPi.mk ⟨by unfold pworth; (repeat first | rw [if_pos (by omega)] | rw [if_neg (by omega)]); try omega, rfl⟩)
    · refine J_iload_n C 3 dX6_worth_15 rfl ?_
      refine J_iload_n C 1 dX6_worth_16 rfl ?_
      refine J_iload_n C 2 dX6_worth_17 rfl ?_
      refine J_isub C dX6_worth_18 ?_
      refine J_icmp_le C 26 dX6_worth_19 (by decide) (by omega) (by omega) (fun h5 => ?_) (fun h5 => ?_)
      · refine J_iload_n C 3 dX6_worth_26 rfl ?_
        refine J_iload_n C 2 dX6_worth_27 rfl ?_
        refine J_icmp_ge C 35 dX6_worth_28 (by decide) (by omega) (by omega) (fun h6 => ?_) (fun h6 => ?_)
        · refine J_iload_n C 3 dX6_worth_35 rfl ?_
          exact J_iret R C dX6_worth_36 (jPi.mk ⟨by unfold pworth; (repeat first | rw [if_pos (by omega)] | rw [if_neg (by omega)]); try omega, rfl⟩)
        · refine J_iconst C dX6_worth_31 ?_
          refine J_goto C 36 dX6_worth_32 (by decide) ?_
          exact J_iret R C dX6_worth_36 (jPi.mk ⟨by unfold pworth; (repeat first | rw [if_pos (by omega)] | rw [if_neg (by omega)]); try omega, rfl⟩)
      · refine J_iload_n C 1 dX6_worth_22 rfl ?_
        refine J_goto C 36 dX6_worth_23 (by decide) ?_
        exact J_iret R C dX6_worth_36 (jPi.mk ⟨by unfold pworth; (repeat first | rw [if_pos (by omega)] | rw [if_neg (by omega)]); try omega, rfl⟩)
  · refine J_iload_n C 3 dX6_worth_8 rfl ?_
    exact J_iret R C dX6_worth_9 (jPi.mk ⟨by unfold pworth; (repeat first | rw [if_pos (by omega)] | rw [if_neg (by omega)]); try omega, rfl⟩)
theorem m_has3 {G : jG} (hG : mG G) (S : jMem) (n0 n1 n2 : Int) (hk : mOK S) (f0 : 0 ≤ n0 ∧ n0 ≤ S 1 0 / 2 * 2) (f1 : 0 ≤ n1 ∧ n1 ≤ S 1 1 / 2 * 2) (f2 : 0 ≤ n2 ∧ n2 ≤ S 1 2 / 2 * 2) : jM G yX6_has_ cX6_has_ 4 (some .long) 1 25 [.ref (jad G 0), .int (iI (n0)), .int (iI (n1)), .int (iI (n2))] S (jPl (fun v S' => phas3 (S 1) n0 n1 n2 = v ∧ S = S')) := by
  refine jM.of (by decide) (Nat.le_of_ble_eq_true rfl) (fun E C R => ?_)
  show J E G 0 [(0, .ref (jad G 0)), (1, .int (iI (n0))), (2, .int (iI (n1))), (3, .int (iI (n2)))] [] _
  have l0 := hk.2.1 0 (by omega) (by omega)
  have l1 := hk.2.1 1 (by omega) (by omega)
  have l2 := hk.2.1 2 (by omega) (by omega)
  refine J_aload_n C 0 dX6_has__0 rfl ?_
  refine g_X6_7 hG C dX6_has__1 ?_
  refine J_iconst C dX6_has__4 ?_
  refine mald hG C 1 3 (by decide) dX6_has__5 (by omega) (by omega) ?_
  refine J_iload_n C 1 dX6_has__6 rfl ?_
  refine J_aload_n C 0 dX6_has__7 rfl ?_
  refine g_X6_7 hG C dX6_has__8 ?_
  refine J_iconst C dX6_has__11 ?_
  refine mald hG C 1 3 (by decide) dX6_has__12 (by omega) (by omega) ?_
  refine J_callS (rest := []) C (m_worth hG S (S 1 (0)) (n0) (S 1 (0)) (by omega) (by omega) (by omega)) kc_X6_worth kl_X6_192 dX6_has__13 rfl rfl (by decide) (Nat.le_of_ble_eq_true rfl) (J_ki (fun v1 S1 h1 => ?_))
  obtain ⟨rfl, rfl⟩ := h1
  have q1 := pworth_in (L := S 1 (0)) (n := n0) (x := S 1 (0)) (by omega) (by omega) (by omega)
  refine J_i2l C dX6_has__16 (by omega) ?_
  refine J_aload_n C 0 dX6_has__17 rfl ?_
  refine g_X6_7 hG C dX6_has__18 ?_
  refine J_iconst C dX6_has__21 ?_
  refine mald hG C 1 3 (by decide) dX6_has__22 (by omega) (by omega) ?_
  refine J_iload_n C 2 dX6_has__23 rfl ?_
  refine J_aload_n C 0 dX6_has__24 rfl ?_
  refine g_X6_7 hG C dX6_has__25 ?_
  refine J_iconst C dX6_has__28 ?_
  refine mald hG C 1 3 (by decide) dX6_has__29 (by omega) (by omega) ?_
  refine J_callS (rest := [.long (iL (pworth (S 1 (0)) (n0) (S 1 (0))))]) C (m_worth hG S (S 1 (1)) (n1) (S 1 (1)) (by omega) (by omega) (by omega)) kc_X6_worth kl_X6_192 dX6_has__30 rfl rfl (by decide) (Nat.le_of_ble_eq_true rfl) (J_ki (fun v2 S2 h2 => ?_))
  obtain ⟨rfl, rfl⟩ := h2
  have q2 := pworth_in (L := S 1 (1)) (n := n1) (x := S 1 (1)) (by omega) (by omega) (by omega)
  refine J_i2l C dX6_has__33 (by omega) ?_
  refine J_lmul C dX6_has__34 ?_
  refine J_aload_n C 0 dX6_has__35 rfl ?_
  refine g_X6_7 hG C dX6_has__36 ?_
  refine J_iconst C dX6_has__39 ?_
  refine mald hG C 1 3 (by decide) dX6_has__40 (by omega) (by omega) ?_
  refine J_iload_n C 3 dX6_has__41 rfl ?_
  refine J_aload_n C 0 dX6_has__42 rfl ?_
  refine g_X6_7 hG C dX6_has__43 ?_
  refine J_iconst C dX6_has__46 ?_
  refine mald hG C 1 3 (by decide) dX6_has__47 (by omega) (by omega) ?_
  refine J_callS (rest := [.long (iL ((pworth (S 1 (0)) (n0) (S 1 (0))) * (pworth (S 1 (1)) (n1) (S 1 (1)))))]) C (m_worth hG S (S 1 (2)) (n2) (S 1 (2)) (by omega) (by omega) (by omega)) kc_X6_worth kl_X6_192 dX6_has__48 rfl rfl (by decide) (Nat.le_of_ble_eq_true rfl) (J_ki (fun v3 S3 h3 => ?_))
  obtain ⟨rfl, rfl⟩ := h3
  have q3 := pworth_in (L := S 1 (2)) (n := n2) (x := S 1 (2)) (by omega) (by omega) (by omega)
  refine J_i2l C dX6_has__51 (by omega) ?_
  refine J_lmul C dX6_has__52 ?_
  exact J_lret R C dX6_has__53 (jPl.mk ⟨by rfl, rfl⟩)
theorem m_dual {G : jG} (hG : mG G) (S : jMem) (a n x : Int) (hk : mOK S) (ha : inR a) (hn : inR n) (hx : inR x) : jM G yX6_dual cX6_dual 4 (some .int) 1 25 [.ref (jad G 0), .int (iI (a)), .int (iI (n)), .int (iI (x))] S (jPi (fun v S' => (if (0 ≤ a ∧ a ≤ 2) ∧ (0 ≤ n ∧ n ≤ S 1 a / 2 * 2) ∧ (0 ≤ x ∧ x ≤ S 1 a) then pworth (S 1 a) n x else -1) = v ∧ S = S')) := by
  refine jM.of (by decide) (Nat.le_of_ble_eq_true rfl) (fun E C R => ?_)
  show J E G 0 [(0, .ref (jad G 0)), (1, .int (iI (a))), (2, .int (iI (n))), (3, .int (iI (x)))] [] _
  refine J_iload_n C 1 dX6_dual_0 rfl ?_
  refine J_if_lt C 32 dX6_dual_1 (by decide) (by omega) (fun h1 => ?_) (fun h1 => ?_)
  · refine J_iconst C dX6_dual_32 ?_
    refine J_goto C 47 dX6_dual_33 (by decide) ?_
    exact J_iret R C dX6_dual_47 (jPi.mk ⟨by first | rw [if_pos (by omega)] | rw [if_neg (by omega)], rfl⟩)
  · refine J_iload_n C 1 dX6_dual_4 rfl ?_
    refine J_iconst C dX6_dual_5 ?_
    refine J_icmp_gt C 32 dX6_dual_6 (by decide) (by omega) (by omega) (fun h2 => ?_) (fun h2 => ?_)
    · refine J_iconst C dX6_dual_32 ?_
      refine J_goto C 47 dX6_dual_33 (by decide) ?_
      exact J_iret R C dX6_dual_47 (jPi.mk ⟨by first | rw [if_pos (by omega)] | rw [if_neg (by omega)], rfl⟩)
    · refine J_aload_n C 0 dX6_dual_9 rfl ?_
      refine J_iload_n C 1 dX6_dual_10 rfl ?_
      refine J_iload_n C 2 dX6_dual_11 rfl ?_
      refine J_callV (k := 0) (rest := []) C (m_isDual hG S (a) (n) hk (by omega) (by omega)) kc_X6_isDual kl_X6_189 (by rw [hG.2]; decide) (by rw [hG.1]; rfl) rfl dX6_dual_12 rfl rfl (by decide) (Nat.le_of_ble_eq_true rfl) (J_ki (fun v3 S3 h3 => ?_))
      obtain ⟨rfl, rfl⟩ := h3
      have q4 := hk.2.1 (a) (by omega) (by omega)
      refine J_if_eq_b C 32 dX6_dual_15 (by decide) (fun h4 => ?_) (fun h4 => ?_)
      · refine J_iconst C dX6_dual_32 ?_
        refine J_goto C 47 dX6_dual_33 (by decide) ?_
        exact J_iret R C dX6_dual_47 (jPi.mk ⟨by first | rw [if_pos (by omega)] | rw [if_neg (by omega)], rfl⟩)
      · refine J_iload_n C 3 dX6_dual_18 rfl ?_
        refine J_if_lt C 32 dX6_dual_19 (by decide) (by omega) (fun h5 => ?_) (fun h5 => ?_)
        · refine J_iconst C dX6_dual_32 ?_
          refine J_goto C 47 dX6_dual_33 (by decide) ?_
          exact J_iret R C dX6_dual_47 (jPi.mk ⟨by first | rw [if_pos (by omega)] | rw [if_neg (by omega)], rfl⟩)
        · refine J_iload_n C 3 dX6_dual_22 rfl ?_
          refine J_aload_n C 0 dX6_dual_23 rfl ?_
          refine g_X6_7 hG C dX6_dual_24 ?_
          refine J_iload_n C 1 dX6_dual_27 rfl ?_
          refine mald hG C 1 3 (by decide) dX6_dual_28 (by omega) (by omega) ?_
          have m6 := hk.2.1 (a) (by omega) (by omega)
          refine J_icmp_le C 36 dX6_dual_29 (by decide) (by omega) (by omega) (fun h7 => ?_) (fun h7 => ?_)
          · refine J_aload_n C 0 dX6_dual_36 rfl ?_
            refine g_X6_7 hG C dX6_dual_37 ?_
            refine J_iload_n C 1 dX6_dual_40 rfl ?_
            refine mald hG C 1 3 (by decide) dX6_dual_41 (by omega) (by omega) ?_
            have m8 := hk.2.1 (a) (by omega) (by omega)
            refine J_iload_n C 2 dX6_dual_42 rfl ?_
            refine J_iload_n C 3 dX6_dual_43 rfl ?_
            refine J_callS (rest := []) C (m_worth hG S (S 1 (a)) (n) (x) (by omega) (by omega) (by omega)) kc_X6_worth kl_X6_192 dX6_dual_44 rfl rfl (by decide) (Nat.le_of_ble_eq_true rfl) (J_ki (fun v9 S9 h9 => ?_))
            obtain ⟨rfl, rfl⟩ := h9
            have q5 := pworth_in (L := S 1 (a)) (n := n) (x := x) (by omega) (by omega) (by omega)
            exact J_iret R C dX6_dual_47 (jPi.mk ⟨by first | rw [if_pos (by omega)] | rw [if_neg (by omega)], rfl⟩)
          · refine J_iconst C dX6_dual_32 ?_
            refine J_goto C 47 dX6_dual_33 (by decide) ?_
            exact J_iret R C dX6_dual_47 (jPi.mk ⟨by first | rw [if_pos (by omega)] | rw [if_neg (by omega)], rfl⟩)
theorem m_isPlace {G : jG} (hG : mG G) (S : jMem) (b t x y z : Int) (hk : mOK S) (hb : inR b) (ht : inR t) (hx : inR x) (hy : inR y) (hz : inR z) : jM G yX6_isPlace cX6_isPlace 6 (some .boolean) 2 45 [.ref (jad G 0), .int (iI (b)), .int (iI (t)), .int (iI (x)), .int (iI (y)), .int (iI (z))] S (jPi (fun v S' => bb (pplace (S 0 1) (S 1) (S 2) (S 4) b t x y z) = v ∧ S = S')) := by
  refine jM.of (by decide) (Nat.le_of_ble_eq_true rfl) (fun E C R => ?_)
  show J E G 0 [(0, .ref (jad G 0)), (1, .int (iI (b))), (2, .int (iI (t))), (3, .int (iI (x))), (4, .int (iI (y))), (5, .int (iI (z)))] [] _
  have hn := hk.1
  have l0 := hk.2.1 0 (by omega) (by omega)
  have l1 := hk.2.1 1 (by omega) (by omega)
  have l2 := hk.2.1 2 (by omega) (by omega)
  refine J_aload_n C 0 dX6_isPlace_0 rfl ?_
  refine J_iload_n C 1 dX6_isPlace_1 rfl ?_
  refine J_callV (k := 0) (rest := []) C (m_isBox hG S (b) (by omega) (by omega)) kc_X6_isBox kl_X6_151 (by rw [hG.2]; decide) (by rw [hG.1]; rfl) rfl dX6_isPlace_2 rfl rfl (by decide) (Nat.le_of_ble_eq_true rfl) (J_ki (fun v1 S1 h1 => ?_))
  obtain ⟨rfl, rfl⟩ := h1
  refine J_if_eq_b C 101 dX6_isPlace_5 (by decide) (fun h2 => ?_) (fun h2 => ?_)
  · refine J_iconst C dX6_isPlace_101 ?_
    exact J_zret R C dX6_isPlace_102 (by first | exact Or.inl rfl | exact Or.inr rfl | omega) (jPi.mk ⟨by first | exact bb_t (by omega) | exact bb_f (by omega), rfl⟩)
  · refine J_iload_n C 2 dX6_isPlace_8 rfl ?_
    refine J_if_lt C 101 dX6_isPlace_9 (by decide) (by omega) (fun h3 => ?_) (fun h3 => ?_)
    · refine J_iconst C dX6_isPlace_101 ?_
      exact J_zret R C dX6_isPlace_102 (by first | exact Or.inl rfl | exact Or.inr rfl | omega) (jPi.mk ⟨by first | exact bb_t (by omega) | exact bb_f (by omega), rfl⟩)
    · refine J_iload_n C 2 dX6_isPlace_12 rfl ?_
      refine J_bipush C dX6_isPlace_13 (by decide) ?_
      refine J_icmp_ge C 101 dX6_isPlace_15 (by decide) (by omega) (by omega) (fun h4 => ?_) (fun h4 => ?_)
      · refine J_iconst C dX6_isPlace_101 ?_
        exact J_zret R C dX6_isPlace_102 (by first | exact Or.inl rfl | exact Or.inr rfl | omega) (jPi.mk ⟨by first | exact bb_t (by omega) | exact bb_f (by omega), rfl⟩)
      · refine J_aload_n C 0 dX6_isPlace_18 rfl ?_
        refine J_iload_n C 1 dX6_isPlace_19 rfl ?_
        refine J_iload_n C 2 dX6_isPlace_20 rfl ?_
        refine J_callV (k := 0) (rest := []) C (m_has hG S (b) (t) hk (by omega) (by omega)) kc_X6_has kl_X6_118 (by rw [hG.2]; decide) (by rw [hG.1]; rfl) rfl dX6_isPlace_21 rfl rfl (by decide) (Nat.le_of_ble_eq_true rfl) (J_ki (fun v5 S5 h5 => ?_))
        obtain ⟨rfl, rfl⟩ := h5
        refine J_if_eq_b C 101 dX6_isPlace_24 (by decide) (fun h6 => ?_) (fun h6 => ?_)
        · refine J_iconst C dX6_isPlace_101 ?_
          exact J_zret R C dX6_isPlace_102 (by first | exact Or.inl rfl | exact Or.inr rfl | omega) (jPi.mk ⟨by first | exact bb_t (by omega) | exact bb_f (by omega), rfl⟩)
        · refine J_iload_n C 3 dX6_isPlace_27 rfl ?_
          refine J_if_lt C 101 dX6_isPlace_28 (by decide) (by omega) (fun h7 => ?_) (fun h7 => ?_)
          · refine J_iconst C dX6_isPlace_101 ?_
            exact J_zret R C dX6_isPlace_102 (by first | exact Or.inl rfl | exact Or.inr rfl | omega) (jPi.mk ⟨by first | exact bb_t (by omega) | exact bb_f (by omega), rfl⟩)
          · refine J_iload_n C 3 dX6_isPlace_31 rfl ?_
            refine J_aload_n C 0 dX6_isPlace_32 rfl ?_
            refine g_X6_7 hG C dX6_isPlace_33 ?_
            refine J_iconst C dX6_isPlace_36 ?_
            refine mald hG C 1 3 (by decide) dX6_isPlace_37 (by omega) (by omega) ?_
            refine J_aload_n C 0 dX6_isPlace_38 rfl ?_
            refine J_iload_n C 1 dX6_isPlace_39 rfl ?_
            refine J_iload_n C 2 dX6_isPlace_40 rfl ?_
            refine J_iconst C dX6_isPlace_41 ?_
            refine J_callV (k := 0) (rest := [.int (iI (S 1 (0))), .int (iI (x))]) C (m_extent hG S (b) (t) (0) (by omega) (by omega) (by omega)) kc_X6_extent kl_X6_121 (by rw [hG.2]; decide) (by rw [hG.1]; rfl) rfl dX6_isPlace_42 rfl rfl (by decide) (Nat.le_of_ble_eq_true rfl) (J_ki (fun v8 S8 h8 => ?_))
            obtain ⟨rfl, rfl⟩ := h8
            have q6 := pext_in hk (b := b) (t := t) (a := 0) (by omega) (by omega)
            refine J_isub C dX6_isPlace_45 ?_
            refine J_icmp_gt C 101 dX6_isPlace_46 (by decide) (by omega) (by omega) (fun h9 => ?_) (fun h9 => ?_)
            · refine J_iconst C dX6_isPlace_101 ?_
              exact J_zret R C dX6_isPlace_102 (by first | exact Or.inl rfl | exact Or.inr rfl | omega) (jPi.mk ⟨by first | exact bb_t (by omega) | exact bb_f (by omega), rfl⟩)
            · refine J_iload C 4 dX6_isPlace_49 rfl ?_
              refine J_if_lt C 101 dX6_isPlace_51 (by decide) (by omega) (fun h10 => ?_) (fun h10 => ?_)
              · refine J_iconst C dX6_isPlace_101 ?_
                exact J_zret R C dX6_isPlace_102 (by first | exact Or.inl rfl | exact Or.inr rfl | omega) (jPi.mk ⟨by first | exact bb_t (by omega) | exact bb_f (by omega), rfl⟩)
              · refine J_iload C 4 dX6_isPlace_54 rfl ?_
                refine J_aload_n C 0 dX6_isPlace_56 rfl ?_
                refine g_X6_7 hG C dX6_isPlace_57 ?_
                refine J_iconst C dX6_isPlace_60 ?_
                refine mald hG C 1 3 (by decide) dX6_isPlace_61 (by omega) (by omega) ?_
                refine J_aload_n C 0 dX6_isPlace_62 rfl ?_
                refine J_iload_n C 1 dX6_isPlace_63 rfl ?_
                refine J_iload_n C 2 dX6_isPlace_64 rfl ?_
                refine J_iconst C dX6_isPlace_65 ?_
                refine J_callV (k := 0) (rest := [.int (iI (S 1 (1))), .int (iI (y))]) C (m_extent hG S (b) (t) (1) (by omega) (by omega) (by omega)) kc_X6_extent kl_X6_121 (by rw [hG.2]; decide) (by rw [hG.1]; rfl) rfl dX6_isPlace_66 rfl rfl (by decide) (Nat.le_of_ble_eq_true rfl) (J_ki (fun v11 S11 h11 => ?_))
                obtain ⟨rfl, rfl⟩ := h11
                have q7 := pext_in hk (b := b) (t := t) (a := 1) (by omega) (by omega)
                refine J_isub C dX6_isPlace_69 ?_
                refine J_icmp_gt C 101 dX6_isPlace_70 (by decide) (by omega) (by omega) (fun h12 => ?_) (fun h12 => ?_)
                · refine J_iconst C dX6_isPlace_101 ?_
                  exact J_zret R C dX6_isPlace_102 (by first | exact Or.inl rfl | exact Or.inr rfl | omega) (jPi.mk ⟨by first | exact bb_t (by omega) | exact bb_f (by omega), rfl⟩)
                · refine J_iload C 5 dX6_isPlace_73 rfl ?_
                  refine J_if_lt C 101 dX6_isPlace_75 (by decide) (by omega) (fun h13 => ?_) (fun h13 => ?_)
                  · refine J_iconst C dX6_isPlace_101 ?_
                    exact J_zret R C dX6_isPlace_102 (by first | exact Or.inl rfl | exact Or.inr rfl | omega) (jPi.mk ⟨by first | exact bb_t (by omega) | exact bb_f (by omega), rfl⟩)
                  · refine J_iload C 5 dX6_isPlace_78 rfl ?_
                    refine J_aload_n C 0 dX6_isPlace_80 rfl ?_
                    refine g_X6_7 hG C dX6_isPlace_81 ?_
                    refine J_iconst C dX6_isPlace_84 ?_
                    refine mald hG C 1 3 (by decide) dX6_isPlace_85 (by omega) (by omega) ?_
                    refine J_aload_n C 0 dX6_isPlace_86 rfl ?_
                    refine J_iload_n C 1 dX6_isPlace_87 rfl ?_
                    refine J_iload_n C 2 dX6_isPlace_88 rfl ?_
                    refine J_iconst C dX6_isPlace_89 ?_
                    refine J_callV (k := 0) (rest := [.int (iI (S 1 (2))), .int (iI (z))]) C (m_extent hG S (b) (t) (2) (by omega) (by omega) (by omega)) kc_X6_extent kl_X6_121 (by rw [hG.2]; decide) (by rw [hG.1]; rfl) rfl dX6_isPlace_90 rfl rfl (by decide) (Nat.le_of_ble_eq_true rfl) (J_ki (fun v14 S14 h14 => ?_))
                    obtain ⟨rfl, rfl⟩ := h14
                    have q8 := pext_in hk (b := b) (t := t) (a := 2) (by omega) (by omega)
                    refine J_isub C dX6_isPlace_93 ?_
                    refine J_icmp_gt C 101 dX6_isPlace_94 (by decide) (by omega) (by omega) (fun h15 => ?_) (fun h15 => ?_)
                    · refine J_iconst C dX6_isPlace_101 ?_
                      exact J_zret R C dX6_isPlace_102 (by first | exact Or.inl rfl | exact Or.inr rfl | omega) (jPi.mk ⟨by first | exact bb_t (by omega) | exact bb_f (by omega), rfl⟩)
                    · refine J_iconst C dX6_isPlace_97 ?_
                      refine J_goto C 102 dX6_isPlace_98 (by decide) ?_
                      exact J_zret R C dX6_isPlace_102 (by first | exact Or.inl rfl | exact Or.inr rfl | omega) (jPi.mk ⟨by first | exact bb_t (by omega) | exact bb_f (by omega), rfl⟩)
