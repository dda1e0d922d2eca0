theorem c_holds {G : jG} (hG : cG G) (S : jMem) (b : Int) (hl : lOK S) (hb : 0 ≤ b ∧ b < 8) : jM G yX2_holds cX2_holds 2 (some .boolean) 0 0 [.ref (jad G 18), .int (iI (b))] S (jPi (fun v S' => bb (zbit (S 18 4) b) = v ∧ S = S')) := by
  refine jM.of (by decide) (Nat.le_of_ble_eq_true rfl) (fun E C R => ?_)
  show J E G 0 [(0, .ref (jad G 18)), (1, .int (iI (b)))] [] _
  have h4 := hl.1
  have h5 := zdiv_in h4.1 b.toNat
  refine J_aload_n C 0 dX2_holds_0 rfl ?_
  refine g_X2_25 hG C dX2_holds_1 ?_
  refine J_iload_n C 1 dX2_holds_4 rfl ?_
  refine J_ishr C dX2_holds_5 (by omega) (by omega) (by omega) ?_
  refine J_iconst C dX2_holds_6 ?_
  refine J_iand C (((S 18 4) / 2 ^ (b).toNat) % 2) dX2_holds_7 (iI_and1 _ (by omega)) ?_
  refine J_iconst C dX2_holds_8 ?_
  refine J_icmp_ne C 16 dX2_holds_9 (by decide) (by omega) (by omega) (fun h1 => ?_) (fun h1 => ?_)
  · refine J_iconst C dX2_holds_16 ?_
    exact J_zret R C dX2_holds_17 (by first | exact Or.inl rfl | exact Or.inr rfl | omega) (jPi.mk ⟨by first | exact bb_t (by assumption) | exact bb_f (by assumption), rfl⟩)
  · refine J_iconst C dX2_holds_12 ?_
    refine J_goto C 17 dX2_holds_13 (by decide) ?_
    exact J_zret R C dX2_holds_17 (by first | exact Or.inl rfl | exact Or.inr rfl | omega) (jPi.mk ⟨by first | exact bb_t (by assumption) | exact bb_f (by assumption), rfl⟩)
theorem c_extentOf {G : jG} (hG : cG G) (S : jMem) (b a : Int) (hb : 0 ≤ b ∧ b < 8) (ha : 0 ≤ a ∧ a < 3) : jM G yX2_extentOf cX2_extentOf 3 (some .int) 0 0 [.ref (jad G 18), .int (iI (b)), .int (iI (a))] S (jPi (fun v S' => S 21 (b * 3 + a) - S 20 (b * 3 + a) = v ∧ S = S')) := by
  refine jM.of (by decide) (Nat.le_of_ble_eq_true rfl) (fun E C R => ?_)
  show J E G 0 [(0, .ref (jad G 18)), (1, .int (iI (b))), (2, .int (iI (a)))] [] _
  refine J_aload_n C 0 dX2_extentOf_0 rfl ?_
  refine g_X2_18 hG C dX2_extentOf_1 ?_
  refine J_iload_n C 1 dX2_extentOf_4 rfl ?_
  refine J_iconst C dX2_extentOf_5 ?_
  refine J_imul C dX2_extentOf_6 ?_
  refine J_iload_n C 2 dX2_extentOf_7 rfl ?_
  refine J_iadd C dX2_extentOf_8 ?_
  refine cald hG C 21 24 (by decide) dX2_extentOf_9 (by omega) (by omega) ?_
  refine J_aload_n C 0 dX2_extentOf_10 rfl ?_
  refine g_X2_15 hG C dX2_extentOf_11 ?_
  refine J_iload_n C 1 dX2_extentOf_14 rfl ?_
  refine J_iconst C dX2_extentOf_15 ?_
  refine J_imul C dX2_extentOf_16 ?_
  refine J_iload_n C 2 dX2_extentOf_17 rfl ?_
  refine J_iadd C dX2_extentOf_18 ?_
  refine cald hG C 20 24 (by decide) dX2_extentOf_19 (by omega) (by omega) ?_
  refine J_isub C dX2_extentOf_20 ?_
  exact J_iret R C dX2_extentOf_21 (jPi.mk ⟨by rfl, rfl⟩)
theorem c_firstGap {G : jG} (hG : cG G) (S : jMem) (a b : Int) (hl : lOK S) (ha : 0 ≤ a ∧ a < 8) (hb : 0 ≤ b ∧ b < 8) : jM G yX2_firstGap cX2_firstGap 4 (some .int) 0 0 [.ref (jad G 18), .int (iI (a)), .int (iI (b))] S (jPi (fun v S' => pgap (S 20) (S 21) a b = v ∧ S = S')) := by
  refine jM.of (by decide) (Nat.le_of_ble_eq_true rfl) (fun E C R => ?_)
  show J E G 0 [(0, .ref (jad G 18)), (1, .int (iI (a))), (2, .int (iI (b)))] [] _
  refine J_iconst C dX2_firstGap_0 ?_
  refine J_istore_n (lv' := [(3, .int (iI (0))), (0, .ref (jad G 18)), (1, .int (iI (a))), (2, .int (iI (b)))]) C dX2_firstGap_1 (by decide) rfl ?_
  refine J_iload_n C 0 dX2_firstGap_2 rfl ?_
  refine J_iconst C dX2_firstGap_3 ?_
  refine J_icmp_ge C 69 dX2_firstGap_4 (by decide) (by omega) (by omega) (fun h => absurd h (by omega)) (fun _ => ?_)
  refine J_aload_n C 1 dX2_firstGap_7 rfl ?_
  refine g_X2_18 hG C dX2_firstGap_8 ?_
  refine J_iload_n C 2 dX2_firstGap_11 rfl ?_
  refine J_iconst C dX2_firstGap_12 ?_
  refine J_imul C dX2_firstGap_13 ?_
  refine J_iload_n C 0 dX2_firstGap_14 rfl ?_
  refine J_iadd C dX2_firstGap_15 ?_
  refine cald hG C 21 24 (by decide) dX2_firstGap_16 (by omega) (by omega) ?_
  have m2 := hl.2.2 (((a) * (3)) + (0)) (by omega) (by omega)
  refine J_aload_n C 1 dX2_firstGap_17 rfl ?_
  refine g_X2_15 hG C dX2_firstGap_18 ?_
  refine J_iload_n C 3 dX2_firstGap_21 rfl ?_
  refine J_iconst C dX2_firstGap_22 ?_
  refine J_imul C dX2_firstGap_23 ?_
  refine J_iload_n C 0 dX2_firstGap_24 rfl ?_
  refine J_iadd C dX2_firstGap_25 ?_
  refine cald hG C 20 24 (by decide) dX2_firstGap_26 (by omega) (by omega) ?_
  have m3 := hl.2.1 (((b) * (3)) + (0)) (by omega) (by omega)
  refine J_icmp_gt C 34 dX2_firstGap_27 (by decide) (by omega) (by omega) (fun h4 => ?_) (fun h4 => ?_)
  · refine J_aload_n C 1 dX2_firstGap_34 rfl ?_
    refine g_X2_18 hG C dX2_firstGap_35 ?_
    refine J_iload_n C 3 dX2_firstGap_38 rfl ?_
    refine J_iconst C dX2_firstGap_39 ?_
    refine J_imul C dX2_firstGap_40 ?_
    refine J_iload_n C 0 dX2_firstGap_41 rfl ?_
    refine J_iadd C dX2_firstGap_42 ?_
    refine cald hG C 21 24 (by decide) dX2_firstGap_43 (by omega) (by omega) ?_
    have m5 := hl.2.2 (((b) * (3)) + (0)) (by omega) (by omega)
    refine J_aload_n C 1 dX2_firstGap_44 rfl ?_
    refine g_X2_15 hG C dX2_firstGap_45 ?_
    refine J_iload_n C 2 dX2_firstGap_48 rfl ?_
    refine J_iconst C dX2_firstGap_49 ?_
    refine J_imul C dX2_firstGap_50 ?_
    refine J_iload_n C 0 dX2_firstGap_51 rfl ?_
    refine J_iadd C dX2_firstGap_52 ?_
    refine cald hG C 20 24 (by decide) dX2_firstGap_53 (by omega) (by omega) ?_
    have m6 := hl.2.1 (((a) * (3)) + (0)) (by omega) (by omega)
    refine J_icmp_gt C 63 dX2_firstGap_54 (by decide) (by omega) (by omega) (fun h7 => ?_) (fun h7 => ?_)
    · refine J_iinc (lv' := [(3, .int (iI (1))), (0, .ref (jad G 18)), (1, .int (iI (a))), (2, .int (iI (b)))]) C 0 dX2_firstGap_63 rfl (by decide) rfl ?_
      refine J_goto C 2 dX2_firstGap_66 (by decide) ?_
      refine J_iload_n C 0 dX2_firstGap_2 rfl ?_
      refine J_iconst C dX2_firstGap_3 ?_
      refine J_icmp_ge C 69 dX2_firstGap_4 (by decide) (by omega) (by omega) (fun h => absurd h (by omega)) (fun _ => ?_)
      refine J_aload_n C 1 dX2_firstGap_7 rfl ?_
      refine g_X2_18 hG C dX2_firstGap_8 ?_
      refine J_iload_n C 2 dX2_firstGap_11 rfl ?_
      refine J_iconst C dX2_firstGap_12 ?_
      refine J_imul C dX2_firstGap_13 ?_
      refine J_iload_n C 0 dX2_firstGap_14 rfl ?_
      refine J_iadd C dX2_firstGap_15 ?_
      refine cald hG C 21 24 (by decide) dX2_firstGap_16 (by omega) (by omega) ?_
      have m9 := hl.2.2 (((a) * (3)) + (1)) (by omega) (by omega)
      refine J_aload_n C 1 dX2_firstGap_17 rfl ?_
      refine g_X2_15 hG C dX2_firstGap_18 ?_
      refine J_iload_n C 3 dX2_firstGap_21 rfl ?_
      refine J_iconst C dX2_firstGap_22 ?_
      refine J_imul C dX2_firstGap_23 ?_
      refine J_iload_n C 0 dX2_firstGap_24 rfl ?_
      refine J_iadd C dX2_firstGap_25 ?_
      refine cald hG C 20 24 (by decide) dX2_firstGap_26 (by omega) (by omega) ?_
      have m10 := hl.2.1 (((b) * (3)) + (1)) (by omega) (by omega)
      refine J_icmp_gt C 34 dX2_firstGap_27 (by decide) (by omega) (by omega) (fun h11 => ?_) (fun h11 => ?_)
      · refine J_aload_n C 1 dX2_firstGap_34 rfl ?_
        refine g_X2_18 hG C dX2_firstGap_35 ?_
        refine J_iload_n C 3 dX2_firstGap_38 rfl ?_
        refine J_iconst C dX2_firstGap_39 ?_
        refine J_imul C dX2_firstGap_40 ?_
        refine J_iload_n C 0 dX2_firstGap_41 rfl ?_
        refine J_iadd C dX2_firstGap_42 ?_
        refine cald hG C 21 24 (by decide) dX2_firstGap_43 (by omega) (by omega) ?_
        have m12 := hl.2.2 (((b) * (3)) + (1)) (by omega) (by omega)
        refine J_aload_n C 1 dX2_firstGap_44 rfl ?_
        refine g_X2_15 hG C dX2_firstGap_45 ?_
        refine J_iload_n C 2 dX2_firstGap_48 rfl ?_
        refine J_iconst C dX2_firstGap_49 ?_
        refine J_imul C dX2_firstGap_50 ?_
        refine J_iload_n C 0 dX2_firstGap_51 rfl ?_
        refine J_iadd C dX2_firstGap_52 ?_
        refine cald hG C 20 24 (by decide) dX2_firstGap_53 (by omega) (by omega) ?_
        have m13 := hl.2.1 (((a) * (3)) + (1)) (by omega) (by omega)
        refine J_icmp_gt C 63 dX2_firstGap_54 (by decide) (by omega) (by omega) (fun h14 => ?_) (fun h14 => ?_)
        · refine J_iinc (lv' := [(3, .int (iI (2))), (0, .ref (jad G 18)), (1, .int (iI (a))), (2, .int (iI (b)))]) C 0 dX2_firstGap_63 rfl (by decide) rfl ?_
          refine J_goto C 2 dX2_firstGap_66 (by decide) ?_
          refine J_iload_n C 0 dX2_firstGap_2 rfl ?_
          refine J_iconst C dX2_firstGap_3 ?_
          refine J_icmp_ge C 69 dX2_firstGap_4 (by decide) (by omega) (by omega) (fun h => absurd h (by omega)) (fun _ => ?_)
          refine J_aload_n C 1 dX2_firstGap_7 rfl ?_
          refine g_X2_18 hG C dX2_firstGap_8 ?_
          refine J_iload_n C 2 dX2_firstGap_11 rfl ?_
          refine J_iconst C dX2_firstGap_12 ?_
          refine J_imul C dX2_firstGap_13 ?_
          refine J_iload_n C 0 dX2_firstGap_14 rfl ?_
          refine J_iadd C dX2_firstGap_15 ?_
          refine cald hG C 21 24 (by decide) dX2_firstGap_16 (by omega) (by omega) ?_
          have m16 := hl.2.2 (((a) * (3)) + (2)) (by omega) (by omega)
          refine J_aload_n C 1 dX2_firstGap_17 rfl ?_
          refine g_X2_15 hG C dX2_firstGap_18 ?_
          refine J_iload_n C 3 dX2_firstGap_21 rfl ?_
          refine J_iconst C dX2_firstGap_22 ?_
          refine J_imul C dX2_firstGap_23 ?_
          refine J_iload_n C 0 dX2_firstGap_24 rfl ?_
          refine J_iadd C dX2_firstGap_25 ?_
          refine cald hG C 20 24 (by decide) dX2_firstGap_26 (by omega) (by omega) ?_
          have m17 := hl.2.1 (((b) * (3)) + (2)) (by omega) (by omega)
          refine J_icmp_gt C 34 dX2_firstGap_27 (by decide) (by omega) (by omega) (fun h18 => ?_) (fun h18 => ?_)
          · refine J_aload_n C 1 dX2_firstGap_34 rfl ?_
            refine g_X2_18 hG C dX2_firstGap_35 ?_
            refine J_iload_n C 3 dX2_firstGap_38 rfl ?_
            refine J_iconst C dX2_firstGap_39 ?_
            refine J_imul C dX2_firstGap_40 ?_
            refine J_iload_n C 0 dX2_firstGap_41 rfl ?_
            refine J_iadd C dX2_firstGap_42 ?_
            refine cald hG C 21 24 (by decide) dX2_firstGap_43 (by omega) (by omega) ?_
            have m19 := hl.2.2 (((b) * (3)) + (2)) (by omega) (by omega)
            refine J_aload_n C 1 dX2_firstGap_44 rfl ?_
            refine g_X2_15 hG C dX2_firstGap_45 ?_
            refine J_iload_n C 2 dX2_firstGap_48 rfl ?_
            refine J_iconst C dX2_firstGap_49 ?_
            refine J_imul C dX2_firstGap_50 ?_
            refine J_iload_n C 0 dX2_firstGap_51 rfl ?_
            refine J_iadd C dX2_firstGap_52 ?_
            refine cald hG C 20 24 (by decide) dX2_firstGap_53 (by omega) (by omega) ?_
            have m20 := hl.2.1 (((a) * (3)) + (2)) (by omega) (by omega)
            refine J_icmp_gt C 63 dX2_firstGap_54 (by decide) (by omega) (by omega) (fun h21 => ?_) (fun h21 => ?_)
            · refine J_iinc (lv' := [(3, .int (iI (3))), (0, .ref (jad G 18)), (1, .int (iI (a))), (2, .int (iI (b)))]) C 0 dX2_firstGap_63 rfl (by decide) rfl ?_
              refine J_goto C 2 dX2_firstGap_66 (by decide) ?_
              refine J_iload_n C 0 dX2_firstGap_2 rfl ?_
              refine J_iconst C dX2_firstGap_3 ?_
              refine J_icmp_ge C 69 dX2_firstGap_4 (by decide) (by omega) (by omega) (fun _ => ?_) (fun h => absurd h (by omega))
              refine J_bipush C dX2_firstGap_69 (by decide) ?_
              exact J_iret R C dX2_firstGap_71 (jPi.mk ⟨by unfold pgap; (repeat first | rw [if_pos (by omega)] | rw [if_neg (by omega)]); try omega, rfl⟩)
            · refine J_iconst C dX2_firstGap_57 ?_
              refine J_iload_n C 0 dX2_firstGap_58 rfl ?_
              refine J_imul C dX2_firstGap_59 ?_
              refine J_iconst C dX2_firstGap_60 ?_
              refine J_iadd C dX2_firstGap_61 ?_
              exact J_iret R C dX2_firstGap_62 (jPi.mk ⟨by unfold pgap; (repeat first | rw [if_pos (by omega)] | rw [if_neg (by omega)]); try omega, rfl⟩)
          · refine J_iconst C dX2_firstGap_30 ?_
            refine J_iload_n C 0 dX2_firstGap_31 rfl ?_
            refine J_imul C dX2_firstGap_32 ?_
            exact J_iret R C dX2_firstGap_33 (jPi.mk ⟨by unfold pgap; (repeat first | rw [if_pos (by omega)] | rw [if_neg (by omega)]); try omega, rfl⟩)
        · refine J_iconst C dX2_firstGap_57 ?_
          refine J_iload_n C 0 dX2_firstGap_58 rfl ?_
          refine J_imul C dX2_firstGap_59 ?_
          refine J_iconst C dX2_firstGap_60 ?_
          refine J_iadd C dX2_firstGap_61 ?_
          exact J_iret R C dX2_firstGap_62 (jPi.mk ⟨by unfold pgap; (repeat first | rw [if_pos (by omega)] | rw [if_neg (by omega)]); try omega, rfl⟩)
      · refine J_iconst C dX2_firstGap_30 ?_
        refine J_iload_n C 0 dX2_firstGap_31 rfl ?_
        refine J_imul C dX2_firstGap_32 ?_
        exact J_iret R C dX2_firstGap_33 (jPi.mk ⟨by unfold pgap; (repeat first | rw [if_pos (by omega)] | rw [if_neg (by omega)]); try omega, rfl⟩)
    · refine J_iconst C dX2_firstGap_57 ?_
      refine J_iload_n C 0 dX2_firstGap_58 rfl ?_
      refine J_imul C dX2_firstGap_59 ?_
      refine J_iconst C dX2_firstGap_60 ?_
      refine J_iadd C dX2_firstGap_61 ?_
      exact J_iret R C dX2_firstGap_62 (jPi.mk ⟨by unfold pgap; (repeat first | rw [if_pos (by omega)] | rw [if_neg (by omega)]); try omega, rfl⟩)
  · refine J_iconst C dX2_firstGap_30 ?_
    refine J_iload_n C 0 dX2_firstGap_31 rfl ?_
    refine J_imul C dX2_firstGap_32 ?_
    exact J_iret R C dX2_firstGap_33 (jPi.mk ⟨by unfold pgap; (repeat first | rw [if_pos (by omega)] | rw [if_neg (by omega)]); try omega, rfl⟩)
theorem c_common {G : jG} (hG : cG G) (S : jMem) (a b x : Int) (hl : lOK S) (ha : 0 ≤ a ∧ a < 8) (hb : 0 ≤ b ∧ b < 8) (hx : 0 ≤ x ∧ x < 3) : jM G yX2_commonLength cX2_commonLength 6 (some .int) 1 21 [.ref (jad G 18), .int (iI (a)), .int (iI (b)), .int (iI (x))] S (jPi (fun v S' => pcom (S 20) (S 21) a b x = v ∧ S = S')) := by
  refine jM.of (by decide) (Nat.le_of_ble_eq_true rfl) (fun E C R => ?_)
  show J E G 0 [(0, .ref (jad G 18)), (1, .int (iI (a))), (2, .int (iI (b))), (3, .int (iI (x)))] [] _
  refine J_aload_n C 0 dX2_commonLength_0 rfl ?_
  refine g_X2_15 hG C dX2_commonLength_1 ?_
  refine J_iload_n C 1 dX2_commonLength_4 rfl ?_
  refine J_iconst C dX2_commonLength_5 ?_
  refine J_imul C dX2_commonLength_6 ?_
  refine J_iload_n C 3 dX2_commonLength_7 rfl ?_
  refine J_iadd C dX2_commonLength_8 ?_
  refine cald hG C 20 24 (by decide) dX2_commonLength_9 (by omega) (by omega) ?_
  have m1 := hl.2.1 (((a) * (3)) + (x)) (by omega) (by omega)
  refine J_aload_n C 0 dX2_commonLength_10 rfl ?_
  refine g_X2_15 hG C dX2_commonLength_11 ?_
  refine J_iload_n C 2 dX2_commonLength_14 rfl ?_
  refine J_iconst C dX2_commonLength_15 ?_
  refine J_imul C dX2_commonLength_16 ?_
  refine J_iload_n C 3 dX2_commonLength_17 rfl ?_
  refine J_iadd C dX2_commonLength_18 ?_
  refine cald hG C 20 24 (by decide) dX2_commonLength_19 (by omega) (by omega) ?_
  have m2 := hl.2.1 (((b) * (3)) + (x)) (by omega) (by omega)
  refine J_callS (rest := []) C (c_max hG S (S 20 (((a) * (3)) + (x))) (S 20 (((b) * (3)) + (x))) (by omega) (by omega)) kc_J9_max_7cf53 kl_X2_49 dX2_commonLength_20 rfl rfl (by decide) (Nat.le_of_ble_eq_true rfl) (J_ki (fun v3 S3 h3 => ?_))
  obtain ⟨rfl, rfl⟩ := h3
  refine J_istore (lv' := [(4, .int (iI (max (S 20 (((a) * (3)) + (x))) (S 20 (((b) * (3)) + (x)))))), (0, .ref (jad G 18)), (1, .int (iI (a))), (2, .int (iI (b))), (3, .int (iI (x)))]) C dX2_commonLength_23 (by decide) rfl ?_
  refine J_aload_n C 1 dX2_commonLength_25 rfl ?_
  refine g_X2_18 hG C dX2_commonLength_26 ?_
  refine J_iload_n C 2 dX2_commonLength_29 rfl ?_
  refine J_iconst C dX2_commonLength_30 ?_
  refine J_imul C dX2_commonLength_31 ?_
  refine J_iload_n C 4 dX2_commonLength_32 rfl ?_
  refine J_iadd C dX2_commonLength_33 ?_
  refine cald hG C 21 24 (by decide) dX2_commonLength_34 (by omega) (by omega) ?_
  have m4 := hl.2.2 (((a) * (3)) + (x)) (by omega) (by omega)
  refine J_aload_n C 1 dX2_commonLength_35 rfl ?_
  refine g_X2_18 hG C dX2_commonLength_36 ?_
  refine J_iload_n C 3 dX2_commonLength_39 rfl ?_
  refine J_iconst C dX2_commonLength_40 ?_
  refine J_imul C dX2_commonLength_41 ?_
  refine J_iload_n C 4 dX2_commonLength_42 rfl ?_
  refine J_iadd C dX2_commonLength_43 ?_
  refine cald hG C 21 24 (by decide) dX2_commonLength_44 (by omega) (by omega) ?_
  have m5 := hl.2.2 (((b) * (3)) + (x)) (by omega) (by omega)
  refine J_callS (rest := []) C (c_min hG S (S 21 (((a) * (3)) + (x))) (S 21 (((b) * (3)) + (x))) (by omega) (by omega)) kc_J9_min_7cf53 kl_X2_54 dX2_commonLength_45 rfl rfl (by decide) (Nat.le_of_ble_eq_true rfl) (J_ki (fun v6 S6 h6 => ?_))
  obtain ⟨rfl, rfl⟩ := h6
  refine J_istore (lv' := [(5, .int (iI (min (S 21 (((a) * (3)) + (x))) (S 21 (((b) * (3)) + (x)))))), (4, .int (iI (max (S 20 (((a) * (3)) + (x))) (S 20 (((b) * (3)) + (x)))))), (0, .ref (jad G 18)), (1, .int (iI (a))), (2, .int (iI (b))), (3, .int (iI (x)))]) C dX2_commonLength_48 (by decide) rfl ?_
  refine J_iconst C dX2_commonLength_50 ?_
  refine J_iload C 0 dX2_commonLength_51 rfl ?_
  refine J_iload C 1 dX2_commonLength_53 rfl ?_
  refine J_isub C dX2_commonLength_55 ?_
  refine J_callS (rest := []) C (c_max hG S (0) ((min (S 21 (((a) * (3)) + (x))) (S 21 (((b) * (3)) + (x)))) - (max (S 20 (((a) * (3)) + (x))) (S 20 (((b) * (3)) + (x))))) (by omega) (by omega)) kc_J9_max_7cf53 kl_X2_49 dX2_commonLength_56 rfl rfl (by decide) (Nat.le_of_ble_eq_true rfl) (J_ki (fun v7 S7 h7 => ?_))
  obtain ⟨rfl, rfl⟩ := h7
  exact J_iret R C dX2_commonLength_59 (jPi.mk ⟨by rfl, rfl⟩)
theorem l_ovl2 {E : jEnv} {G : jG} (hG : cG G) (C : jX E G cX2_overlapCount 4 RX2 1 23) (S : jMem) (hl : lOK S) (a tt : Int) (ha : 0 ≤ a ∧ a < 8) : ∀ (n : Nat) (b acc : Int), n = (8 - b).toNat → (a < b ∧ b ≤ 8 ∧ acc + isum (povl (S 18 4) (S 20) (S 21) a) b (8 - b).toNat = tt) → J E G 56 [(0, .ref (jad G 18)), (1, .int (iI tt)), (2, .int (iI a))] [] S → J E G 14 [(0, .ref (jad G 18)), (1, .int (iI (acc))), (2, .int (iI (a))), (3, .int (iI (b)))] [] S := by
  intro n
  induction n using Nat.strongRecOn with | ind n ih => ?_
  intro b acc hn hi K
  refine J_iload_n C 3 dX2_overlapCount_14 rfl ?_
  refine J_bipush C dX2_overlapCount_15 (by decide) ?_
  refine J_icmp_ge C 56 dX2_overlapCount_17 (by decide) (by omega) (by omega) (fun h1 => ?_) (fun h1 => ?_)
  · have e := isum_end (povl (S 18 4) (S 20) (S 21) a) (i := b) (hi := 8) (by omega)
    refine J_lv [0, 1, 2] rfl ?_
    have e2 : acc = tt := by omega
    rw [e2]
    exact K
  · refine J_aload_n C 0 dX2_overlapCount_20 rfl ?_
    refine J_iload_n C 2 dX2_overlapCount_21 rfl ?_
    refine J_callV (k := 18) (rest := []) C (c_holds hG S (a) hl (by omega)) kc_X2_holds kl_X2_35 (by rw [hG.2]; decide) (by rw [hG.1]; rfl) rfl dX2_overlapCount_22 rfl rfl (by decide) (Nat.le_of_ble_eq_true rfl) (J_ki (fun v2 S2 h2 => ?_))
    obtain ⟨rfl, rfl⟩ := h2
    refine J_if_eq_b C 50 dX2_overlapCount_25 (by decide) (fun h3 => ?_) (fun h3 => ?_)
    · refine J_iinc (lv' := [(3, .int (iI (b + 1))), (0, .ref (jad G 18)), (1, .int (iI (acc))), (2, .int (iI (a)))]) C 3 dX2_overlapCount_50 rfl (by decide) rfl ?_
      refine J_goto C 14 dX2_overlapCount_53 (by decide) ?_
      have e := isum_step (povl (S 18 4) (S 20) (S 21) a) (i := b) (hi := 8) (by omega)
      have e2 : povl (S 18 4) (S 20) (S 21) a b = 0 := bb_f (fun h => by first | exact absurd h.1 (by assumption) | exact absurd h.2.1 (by assumption) | exact absurd h.2.2 (by assumption))
      refine J_lv [1, 2, 3, 0] rfl ?_
      exact ih _ (by omega) (b + 1) (acc) rfl ⟨by omega, by omega, by omega⟩ K
    · refine J_aload_n C 0 dX2_overlapCount_28 rfl ?_
      refine J_iload_n C 3 dX2_overlapCount_29 rfl ?_
      refine J_callV (k := 18) (rest := []) C (c_holds hG S (b) hl (by omega)) kc_X2_holds kl_X2_35 (by rw [hG.2]; decide) (by rw [hG.1]; rfl) rfl dX2_overlapCount_30 rfl rfl (by decide) (Nat.le_of_ble_eq_true rfl) (J_ki (fun v4 S4 h4 => ?_))
      obtain ⟨rfl, rfl⟩ := h4
      refine J_if_eq_b C 50 dX2_overlapCount_33 (by decide) (fun h5 => ?_) (fun h5 => ?_)
      · refine J_iinc (lv' := [(3, .int (iI (b + 1))), (0, .ref (jad G 18)), (1, .int (iI (acc))), (2, .int (iI (a)))]) C 3 dX2_overlapCount_50 rfl (by decide) rfl ?_
        refine J_goto C 14 dX2_overlapCount_53 (by decide) ?_
        have e := isum_step (povl (S 18 4) (S 20) (S 21) a) (i := b) (hi := 8) (by omega)
        have e2 : povl (S 18 4) (S 20) (S 21) a b = 0 := bb_f (fun h => by first | exact absurd h.1 (by assumption) | exact absurd h.2.1 (by assumption) | exact absurd h.2.2 (by assumption))
        refine J_lv [1, 2, 3, 0] rfl ?_
        exact ih _ (by omega) (b + 1) (acc) rfl ⟨by omega, by omega, by omega⟩ K
      · refine J_aload_n C 0 dX2_overlapCount_36 rfl ?_
        refine J_iload_n C 2 dX2_overlapCount_37 rfl ?_
        refine J_iload_n C 3 dX2_overlapCount_38 rfl ?_
        refine J_callV (k := 18) (rest := []) C (c_firstGap hG S (a) (b) hl (by omega) (by omega)) kc_X2_firstGap kl_X2_39 (by rw [hG.2]; decide) (by rw [hG.1]; rfl) rfl dX2_overlapCount_39 rfl rfl (by decide) (Nat.le_of_ble_eq_true rfl) (J_ki (fun v6 S6 h6 => ?_))
        obtain ⟨rfl, rfl⟩ := h6
        have q1 := pgap_in (S 20) (S 21) (a) (b)
        refine J_bipush C dX2_overlapCount_42 (by decide) ?_
        refine J_icmp_ne C 50 dX2_overlapCount_44 (by decide) (by omega) (by omega) (fun h7 => ?_) (fun h7 => ?_)
        · refine J_iinc (lv' := [(3, .int (iI (b + 1))), (0, .ref (jad G 18)), (1, .int (iI (acc))), (2, .int (iI (a)))]) C 3 dX2_overlapCount_50 rfl (by decide) rfl ?_
          refine J_goto C 14 dX2_overlapCount_53 (by decide) ?_
          have e := isum_step (povl (S 18 4) (S 20) (S 21) a) (i := b) (hi := 8) (by omega)
          have e2 : povl (S 18 4) (S 20) (S 21) a b = 0 := bb_f (fun h => by first | exact absurd h.1 (by assumption) | exact absurd h.2.1 (by assumption) | exact absurd h.2.2 (by assumption))
          refine J_lv [1, 2, 3, 0] rfl ?_
          exact ih _ (by omega) (b + 1) (acc) rfl ⟨by omega, by omega, by omega⟩ K
        · refine J_iinc (lv' := [(1, .int (iI (acc + 1))), (0, .ref (jad G 18)), (2, .int (iI (a))), (3, .int (iI (b)))]) C 1 dX2_overlapCount_47 rfl (by decide) rfl ?_
          refine J_iinc (lv' := [(3, .int (iI (b + 1))), (1, .int (iI (acc + 1))), (0, .ref (jad G 18)), (2, .int (iI (a)))]) C 3 dX2_overlapCount_50 rfl (by decide) rfl ?_
          refine J_goto C 14 dX2_overlapCount_53 (by decide) ?_
          have e := isum_step (povl (S 18 4) (S 20) (S 21) a) (i := b) (hi := 8) (by omega)
          have e2 : povl (S 18 4) (S 20) (S 21) a b = 1 := bb_t ⟨by assumption, by assumption, by assumption⟩
          refine J_lv [2, 1, 3, 0] rfl ?_
          exact ih _ (by omega) (b + 1) (acc + 1) rfl ⟨by omega, by omega, by omega⟩ K
theorem l_ovl1 {E : jEnv} {G : jG} (hG : cG G) (C : jX E G cX2_overlapCount 4 RX2 1 23) (S : jMem) (hl : lOK S) (R : jR E G (some .int) (jPi (fun v S' => povs (S 18 4) (S 20) (S 21) = v ∧ S = S'))) : ∀ (n : Nat) (a acc : Int), n = (8 - a).toNat → (0 ≤ a ∧ a ≤ 8 ∧ acc + isum (fun a => isum (povl (S 18 4) (S 20) (S 21) a) (a + 1) (8 - (a + 1)).toNat) a (8 - a).toNat = povs (S 18 4) (S 20) (S 21)) → J E G 4 [(0, .ref (jad G 18)), (1, .int (iI (acc))), (2, .int (iI (a)))] [] S := by
  intro n
  induction n using Nat.strongRecOn with | ind n ih => ?_
  intro a acc hn hi
  refine J_iload_n C 2 dX2_overlapCount_4 rfl ?_
  refine J_bipush C dX2_overlapCount_5 (by decide) ?_
  refine J_icmp_ge C 62 dX2_overlapCount_7 (by decide) (by omega) (by omega) (fun h1 => ?_) (fun h1 => ?_)
  · refine J_iload_n C 1 dX2_overlapCount_62 rfl ?_
    exact J_iret R C dX2_overlapCount_63 (jPi.mk ⟨by have e := isum_end (fun a => isum (povl (S 18 4) (S 20) (S 21) a) (a + 1) (8 - (a + 1)).toNat) (i := a) (hi := 8) (by omega); omega, rfl⟩)
  · refine J_iload_n C 2 dX2_overlapCount_10 rfl ?_
    refine J_iconst C dX2_overlapCount_11 ?_
    refine J_iadd C dX2_overlapCount_12 ?_
    refine J_istore_n (lv' := [(3, .int (iI ((a) + (1)))), (0, .ref (jad G 18)), (1, .int (iI (acc))), (2, .int (iI (a)))]) C dX2_overlapCount_13 (by decide) rfl ?_
    have e := isum_step (fun a => isum (povl (S 18 4) (S 20) (S 21) a) (a + 1) (8 - (a + 1)).toNat) (i := a) (hi := 8) (by omega)
    try dsimp only at e
    refine J_lv [1, 2, 3, 0] rfl ?_
    refine l_ovl2 hG C S hl a (acc + isum (povl (S 18 4) (S 20) (S 21) a) (a + 1) (8 - (a + 1)).toNat) (by omega) _ (a + 1) acc rfl ⟨by omega, by omega, by omega⟩ ?_
    refine J_iinc (lv' := [(2, .int (iI (a + 1))), (0, .ref (jad G 18)), (1, .int (iI (acc + isum (povl (S 18 4) (S 20) (S 21) a) (a + 1) (8 - (a + 1)).toNat)))]) C 2 dX2_overlapCount_56 rfl (by decide) rfl ?_
    refine J_goto C 4 dX2_overlapCount_59 (by decide) ?_
    refine J_lv [1, 2, 0] rfl ?_
    exact ih _ (by omega) (a + 1) _ rfl ⟨by omega, by omega, by omega⟩
theorem c_overlapCount {G : jG} (hG : cG G) (S : jMem) (hl : lOK S) : jM G yX2_overlapCount cX2_overlapCount 4 (some .int) 1 23 [.ref (jad G 18)] S (jPi (fun v S' => povs (S 18 4) (S 20) (S 21) = v ∧ S = S')) := by
  refine jM.of (by decide) (Nat.le_of_ble_eq_true rfl) (fun E C R => ?_)
  show J E G 0 [(0, .ref (jad G 18))] [] _
  refine J_iconst C dX2_overlapCount_0 ?_
  refine J_istore_n (lv' := [(1, .int (iI (0))), (0, .ref (jad G 18))]) C dX2_overlapCount_1 (by decide) rfl ?_
  refine J_iconst C dX2_overlapCount_2 ?_
  refine J_istore_n (lv' := [(2, .int (iI (0))), (1, .int (iI (0))), (0, .ref (jad G 18))]) C dX2_overlapCount_3 (by decide) rfl ?_
  refine J_lv [2, 1, 0] rfl ?_
  exact l_ovl1 hG C S hl R _ 0 0 rfl ⟨by omega, by omega, by rw [Int.zero_add]; rfl⟩
theorem l_wsum {E : jEnv} {G : jG} (hG : cG G) (C : jX E G cX2_weightSum 3 RX2 1 21) (S : jMem)  (hl : lOK S) (R : jR E G (some .int) (jPi (fun v S' => pwsum (S 18 4) (S 5) = v ∧ S = S'))) : ∀ (n : Nat) (i acc : Int), n = (8 - i).toNat → (0 ≤ i ∧ i ≤ 8 ∧ acc + isum (fun b => bb (zbit (S 18 4) b) * S 5 b) i (8 - i).toNat = pwsum (S 18 4) (S 5)) → J E G 4 [(0, .ref (jad G 18)), (1, .int (iI (acc))), (2, .int (iI (i)))] [] S := by
  intro n
  induction n using Nat.strongRecOn with | ind n ih => ?_
  intro i acc hn hi
  refine J_iload_n C 2 dX2_weightSum_4 rfl ?_
  refine J_bipush C dX2_weightSum_5 (by decide) ?_
  refine J_icmp_ge C 36 dX2_weightSum_7 (by decide) (by omega) (by omega) (fun h1 => ?_) (fun h1 => ?_)
  · refine J_iload_n C 1 dX2_weightSum_36 rfl ?_
    exact J_iret R C dX2_weightSum_37 (jPi.mk ⟨by have e := isum_end (fun b => bb (zbit (S 18 4) b) * S 5 b) (i := i) (hi := 8) (by omega); omega, rfl⟩)
  · refine J_aload_n C 0 dX2_weightSum_10 rfl ?_
    refine J_iload_n C 2 dX2_weightSum_11 rfl ?_
    refine J_callV (k := 18) (rest := []) C (c_holds hG S (i) hl (by omega)) kc_X2_holds kl_X2_35 (by rw [hG.2]; decide) (by rw [hG.1]; rfl) rfl dX2_weightSum_12 rfl rfl (by decide) (Nat.le_of_ble_eq_true rfl) (J_ki (fun v2 S2 h2 => ?_))
    obtain ⟨rfl, rfl⟩ := h2
    refine J_if_eq_b C 30 dX2_weightSum_15 (by decide) (fun h3 => ?_) (fun h3 => ?_)
    · refine J_iinc (lv' := [(2, .int (iI (i + 1))), (0, .ref (jad G 18)), (1, .int (iI (acc)))]) C 2 dX2_weightSum_30 rfl (by decide) rfl ?_
      refine J_goto C 4 dX2_weightSum_33 (by decide) ?_
      have e := isum_step (fun b => bb (zbit (S 18 4) b) * S 5 b) (i := i) (hi := 8) (by omega)
      try dsimp only at e
      rw [bb_mul_f (by first | assumption | exact ⟨by assumption, by assumption⟩ | (intro h; first | exact absurd h (by assumption) | exact absurd h.1 (by assumption) | exact absurd h.2 (by assumption)))] at e
      refine J_lv [1, 2, 0] rfl ?_
      exact ih _ (by omega) (i + 1) (acc) rfl ⟨by omega, by omega, by omega⟩
    · refine J_iload_n C 1 dX2_weightSum_18 rfl ?_
      refine J_aload_n C 0 dX2_weightSum_19 rfl ?_
      refine g_X2_21 hG C dX2_weightSum_20 ?_
      refine g_X2_57 hG C dX2_weightSum_23 ?_
      refine J_iload_n C 2 dX2_weightSum_26 rfl ?_
      refine cald hG C 5 8 (by decide) dX2_weightSum_27 (by omega) (by omega) ?_
      refine J_iadd C dX2_weightSum_28 ?_
      refine J_istore_n (lv' := [(1, .int (iI ((acc) + (S 5 (i))))), (0, .ref (jad G 18)), (2, .int (iI (i)))]) C dX2_weightSum_29 (by decide) rfl ?_
      refine J_iinc (lv' := [(2, .int (iI (i + 1))), (1, .int (iI ((acc) + (S 5 (i))))), (0, .ref (jad G 18))]) C 2 dX2_weightSum_30 rfl (by decide) rfl ?_
      refine J_goto C 4 dX2_weightSum_33 (by decide) ?_
      have e := isum_step (fun b => bb (zbit (S 18 4) b) * S 5 b) (i := i) (hi := 8) (by omega)
      try dsimp only at e
      rw [bb_mul_t (by first | assumption | exact ⟨by assumption, by assumption⟩ | (intro h; first | exact absurd h (by assumption) | exact absurd h.1 (by assumption) | exact absurd h.2 (by assumption)))] at e
      refine J_lv [2, 1, 0] rfl ?_
      exact ih _ (by omega) (i + 1) ((acc) + (S 5 (i))) rfl ⟨by omega, by omega, by omega⟩
theorem c_weightSum {G : jG} (hG : cG G) (S : jMem) (hl : lOK S) : jM G yX2_weightSum cX2_weightSum 3 (some .int) 1 21 [.ref (jad G 18)] S (jPi (fun v S' => pwsum (S 18 4) (S 5) = v ∧ S = S')) := by
  refine jM.of (by decide) (Nat.le_of_ble_eq_true rfl) (fun E C R => ?_)
  show J E G 0 [(0, .ref (jad G 18))] [] _
  refine J_iconst C dX2_weightSum_0 ?_
  refine J_istore_n (lv' := [(1, .int (iI (0))), (0, .ref (jad G 18))]) C dX2_weightSum_1 (by decide) rfl ?_
  refine J_iconst C dX2_weightSum_2 ?_
  refine J_istore_n (lv' := [(2, .int (iI (0))), (1, .int (iI (0))), (0, .ref (jad G 18))]) C dX2_weightSum_3 (by decide) rfl ?_
  refine J_lv [2, 1, 0] rfl ?_
  exact l_wsum hG C S hl R _ 0 0 rfl ⟨by omega, by omega, by rw [Int.zero_add]; rfl⟩
theorem l_mom {E : jEnv} {G : jG} (hG : cG G) (C : jX E G cX2_doubledMoment 5 RX2 1 21) (S : jMem) (x : Int) (hl : lOK S) (hx : 0 ≤ x ∧ x < 3) (R : jR E G (some .int) (jPi (fun v S' => pmom (S 18 4) (S 5) (S 20) (S 21) x = v ∧ S = S'))) : ∀ (n : Nat) (i acc : Int), n = (8 - i).toNat → (0 ≤ i ∧ i ≤ 8 ∧ acc + isum (fun b => bb (zbit (S 18 4) b) * (S 5 b * (S 20 (b * 3 + x) + S 21 (b * 3 + x)))) i (8 - i).toNat = pmom (S 18 4) (S 5) (S 20) (S 21) x) → J E G 4 [(0, .ref (jad G 18)), (1, .int (iI (x))), (2, .int (iI (acc))), (3, .int (iI (i)))] [] S := by
  intro n
  induction n using Nat.strongRecOn with | ind n ih => ?_
  intro i acc hn hi
  refine J_iload_n C 3 dX2_doubledMoment_4 rfl ?_
  refine J_bipush C dX2_doubledMoment_5 (by decide) ?_
  refine J_icmp_ge C 59 dX2_doubledMoment_7 (by decide) (by omega) (by omega) (fun h1 => ?_) (fun h1 => ?_)
  · refine J_iload_n C 2 dX2_doubledMoment_59 rfl ?_
    exact J_iret R C dX2_doubledMoment_60 (jPi.mk ⟨by have e := isum_end (fun b => bb (zbit (S 18 4) b) * (S 5 b * (S 20 (b * 3 + x) + S 21 (b * 3 + x)))) (i := i) (hi := 8) (by omega); omega, rfl⟩)
  · refine J_aload_n C 0 dX2_doubledMoment_10 rfl ?_
    refine J_iload_n C 3 dX2_doubledMoment_11 rfl ?_
    refine J_callV (k := 18) (rest := []) C (c_holds hG S (i) hl (by omega)) kc_X2_holds kl_X2_35 (by rw [hG.2]; decide) (by rw [hG.1]; rfl) rfl dX2_doubledMoment_12 rfl rfl (by decide) (Nat.le_of_ble_eq_true rfl) (J_ki (fun v2 S2 h2 => ?_))
    obtain ⟨rfl, rfl⟩ := h2
    refine J_if_eq_b C 53 dX2_doubledMoment_15 (by decide) (fun h3 => ?_) (fun h3 => ?_)
    · refine J_iinc (lv' := [(3, .int (iI (i + 1))), (0, .ref (jad G 18)), (1, .int (iI (x))), (2, .int (iI (acc)))]) C 3 dX2_doubledMoment_53 rfl (by decide) rfl ?_
      refine J_goto C 4 dX2_doubledMoment_56 (by decide) ?_
      have e := isum_step (fun b => bb (zbit (S 18 4) b) * (S 5 b * (S 20 (b * 3 + x) + S 21 (b * 3 + x)))) (i := i) (hi := 8) (by omega)
      try dsimp only at e
      rw [bb_mul_f (by first | assumption | exact ⟨by assumption, by assumption⟩ | (intro h; first | exact absurd h (by assumption) | exact absurd h.1 (by assumption) | exact absurd h.2 (by assumption)))] at e
      refine J_lv [1, 2, 3, 0] rfl ?_
      exact ih _ (by omega) (i + 1) (acc) rfl ⟨by omega, by omega, by omega⟩
    · refine J_iload_n C 3 dX2_doubledMoment_18 rfl ?_
      refine J_iconst C dX2_doubledMoment_19 ?_
      refine J_imul C dX2_doubledMoment_20 ?_
      refine J_iload_n C 1 dX2_doubledMoment_21 rfl ?_
      refine J_iadd C dX2_doubledMoment_22 ?_
      refine J_istore (lv' := [(4, .int (iI (((i) * (3)) + (x)))), (0, .ref (jad G 18)), (1, .int (iI (x))), (2, .int (iI (acc))), (3, .int (iI (i)))]) C dX2_doubledMoment_23 (by decide) rfl ?_
      refine J_iload_n C 3 dX2_doubledMoment_25 rfl ?_
      refine J_aload_n C 1 dX2_doubledMoment_26 rfl ?_
      refine g_X2_21 hG C dX2_doubledMoment_27 ?_
      refine g_X2_57 hG C dX2_doubledMoment_30 ?_
      refine J_iload_n C 4 dX2_doubledMoment_33 rfl ?_
      refine cald hG C 5 8 (by decide) dX2_doubledMoment_34 (by omega) (by omega) ?_
      refine J_aload_n C 1 dX2_doubledMoment_35 rfl ?_
      refine g_X2_15 hG C dX2_doubledMoment_36 ?_
      refine J_iload C 0 dX2_doubledMoment_39 rfl ?_
      refine cald hG C 20 24 (by decide) dX2_doubledMoment_41 (by omega) (by omega) ?_
      have m4 := hl.2.1 (((i) * (3)) + (x)) (by omega) (by omega)
      refine J_aload_n C 1 dX2_doubledMoment_42 rfl ?_
      refine g_X2_18 hG C dX2_doubledMoment_43 ?_
      refine J_iload C 0 dX2_doubledMoment_46 rfl ?_
      refine cald hG C 21 24 (by decide) dX2_doubledMoment_48 (by omega) (by omega) ?_
      have m5 := hl.2.2 (((i) * (3)) + (x)) (by omega) (by omega)
      refine J_iadd C dX2_doubledMoment_49 ?_
      refine J_imul C dX2_doubledMoment_50 ?_
      refine J_iadd C dX2_doubledMoment_51 ?_
      refine J_istore_n (lv' := [(2, .int (iI ((acc) + ((S 5 (i)) * ((S 20 (((i) * (3)) + (x))) + (S 21 (((i) * (3)) + (x)))))))), (4, .int (iI (((i) * (3)) + (x)))), (0, .ref (jad G 18)), (1, .int (iI (x))), (3, .int (iI (i)))]) C dX2_doubledMoment_52 (by decide) rfl ?_
      refine J_iinc (lv' := [(3, .int (iI (i + 1))), (2, .int (iI ((acc) + ((S 5 (i)) * ((S 20 (((i) * (3)) + (x))) + (S 21 (((i) * (3)) + (x)))))))), (4, .int (iI (((i) * (3)) + (x)))), (0, .ref (jad G 18)), (1, .int (iI (x)))]) C 4 dX2_doubledMoment_53 rfl (by decide) rfl ?_
      refine J_goto C 4 dX2_doubledMoment_56 (by decide) ?_
      have e := isum_step (fun b => bb (zbit (S 18 4) b) * (S 5 b * (S 20 (b * 3 + x) + S 21 (b * 3 + x)))) (i := i) (hi := 8) (by omega)
      try dsimp only at e
      rw [bb_mul_t (by first | assumption | exact ⟨by assumption, by assumption⟩ | (intro h; first | exact absurd h (by assumption) | exact absurd h.1 (by assumption) | exact absurd h.2 (by assumption)))] at e
      refine J_lv [3, 4, 1, 0] rfl ?_
      exact ih _ (by omega) (i + 1) ((acc) + ((S 5 (i)) * ((S 20 (((i) * (3)) + (x))) + (S 21 (((i) * (3)) + (x)))))) rfl ⟨by omega, by omega, by omega⟩
theorem c_moment {G : jG} (hG : cG G) (S : jMem) (x : Int) (hl : lOK S) (hx : 0 ≤ x ∧ x < 3) : jM G yX2_doubledMoment cX2_doubledMoment 5 (some .int) 1 21 [.ref (jad G 18), .int (iI (x))] S (jPi (fun v S' => pmom (S 18 4) (S 5) (S 20) (S 21) x = v ∧ S = S')) := by
  refine jM.of (by decide) (Nat.le_of_ble_eq_true rfl) (fun E C R => ?_)
  show J E G 0 [(0, .ref (jad G 18)), (1, .int (iI (x)))] [] _
  refine J_iconst C dX2_doubledMoment_0 ?_
  refine J_istore_n (lv' := [(2, .int (iI (0))), (0, .ref (jad G 18)), (1, .int (iI (x)))]) C dX2_doubledMoment_1 (by decide) rfl ?_
  refine J_iconst C dX2_doubledMoment_2 ?_
  refine J_istore_n (lv' := [(3, .int (iI (0))), (2, .int (iI (0))), (0, .ref (jad G 18)), (1, .int (iI (x)))]) C dX2_doubledMoment_3 (by decide) rfl ?_
  refine J_lv [2, 3, 1, 0] rfl ?_
  exact l_mom hG C S x hl hx R _ 0 0 rfl ⟨by omega, by omega, by rw [Int.zero_add]; rfl⟩
theorem l_held {E : jEnv} {G : jG} (hG : cG G) (C : jX E G cX2_heldArea 5 RX2 2 46) (S : jMem) (b : Int) (hl : lOK S) (hb : 0 ≤ b ∧ b < 8) (hz : ¬ S 20 (b * 3 + 2) = 0) (R : jR E G (some .int) (jPi (fun v S' => (if S 20 (b * 3 + 2) = 0 then (S 21 (b * 3 + 0) - S 20 (b * 3 + 0)) * (S 21 (b * 3 + 1) - S 20 (b * 3 + 1)) else isum (pheld (S 18 4) (S 20) (S 21) b) 0 (8 - 0 : Int).toNat) = v ∧ S = S'))) : ∀ (n : Nat) (i acc : Int), n = (8 - i).toNat → (0 ≤ i ∧ i ≤ 8 ∧ acc + isum (fun o => bb (zbit (S 18 4) o ∧ S 21 (o * 3 + 2) = S 20 (b * 3 + 2)) * (pcom (S 20) (S 21) b o 0 * pcom (S 20) (S 21) b o 1)) i (8 - i).toNat = (if S 20 (b * 3 + 2) = 0 then (S 21 (b * 3 + 0) - S 20 (b * 3 + 0)) * (S 21 (b * 3 + 1) - S 20 (b * 3 + 1)) else isum (pheld (S 18 4) (S 20) (S 21) b) 0 (8 - 0 : Int).toNat)) → J E G 34 [(0, .ref (jad G 18)), (1, .int (iI (b))), (2, .int (iI (S 20 (b * 3 + 2)))), (3, .int (iI (acc))), (4, .int (iI (i)))] [] S := by
  intro n
  induction n using Nat.strongRecOn with | ind n ih => ?_
  intro i acc hn hi
  have hg := hl.2.1 (b * 3 + 2) (by omega) (by omega)
  refine J_iload C 4 dX2_heldArea_34 rfl ?_
  refine J_bipush C dX2_heldArea_36 (by decide) ?_
  refine J_icmp_ge C 91 dX2_heldArea_38 (by decide) (by omega) (by omega) (fun h1 => ?_) (fun h1 => ?_)
  · refine J_iload_n C 3 dX2_heldArea_91 rfl ?_
    exact J_iret R C dX2_heldArea_92 (jPi.mk ⟨by have e := isum_end (fun o => bb (zbit (S 18 4) o ∧ S 21 (o * 3 + 2) = S 20 (b * 3 + 2)) * (pcom (S 20) (S 21) b o 0 * pcom (S 20) (S 21) b o 1)) (i := i) (hi := 8) (by omega); omega, rfl⟩)
  · refine J_aload_n C 0 dX2_heldArea_41 rfl ?_
    refine J_iload C 4 dX2_heldArea_42 rfl ?_
    refine J_callV (k := 18) (rest := []) C (c_holds hG S (i) hl (by omega)) kc_X2_holds kl_X2_35 (by rw [hG.2]; decide) (by rw [hG.1]; rfl) rfl dX2_heldArea_44 rfl rfl (by decide) (Nat.le_of_ble_eq_true rfl) (J_ki (fun v2 S2 h2 => ?_))
    obtain ⟨rfl, rfl⟩ := h2
    refine J_if_eq_b C 85 dX2_heldArea_47 (by decide) (fun h3 => ?_) (fun h3 => ?_)
    · refine J_iinc (lv' := [(4, .int (iI (i + 1))), (0, .ref (jad G 18)), (1, .int (iI (b))), (2, .int (iI (S 20 (b * 3 + 2)))), (3, .int (iI (acc)))]) C 4 dX2_heldArea_85 rfl (by decide) rfl ?_
      refine J_goto C 34 dX2_heldArea_88 (by decide) ?_
      have e := isum_step (fun o => bb (zbit (S 18 4) o ∧ S 21 (o * 3 + 2) = S 20 (b * 3 + 2)) * (pcom (S 20) (S 21) b o 0 * pcom (S 20) (S 21) b o 1)) (i := i) (hi := 8) (by omega)
      try dsimp only at e
      rw [bb_mul_f (by first | assumption | exact ⟨by assumption, by assumption⟩ | (intro h; first | exact absurd h (by assumption) | exact absurd h.1 (by assumption) | exact absurd h.2 (by assumption)))] at e
      refine J_lv [1, 2, 3, 4, 0] rfl ?_
      exact ih _ (by omega) (i + 1) (acc) rfl ⟨by omega, by omega, by omega⟩
    · refine J_aload_n C 0 dX2_heldArea_50 rfl ?_
      refine g_X2_18 hG C dX2_heldArea_51 ?_
      refine J_iload C 4 dX2_heldArea_54 rfl ?_
      refine J_iconst C dX2_heldArea_56 ?_
      refine J_imul C dX2_heldArea_57 ?_
      refine J_iconst C dX2_heldArea_58 ?_
      refine J_iadd C dX2_heldArea_59 ?_
      refine cald hG C 21 24 (by decide) dX2_heldArea_60 (by omega) (by omega) ?_
      have m4 := hl.2.2 (((i) * (3)) + (2)) (by omega) (by omega)
      refine J_iload_n C 2 dX2_heldArea_61 rfl ?_
      refine J_icmp_ne C 85 dX2_heldArea_62 (by decide) (by omega) (by omega) (fun h5 => ?_) (fun h5 => ?_)
      · refine J_iinc (lv' := [(4, .int (iI (i + 1))), (0, .ref (jad G 18)), (1, .int (iI (b))), (2, .int (iI (S 20 (b * 3 + 2)))), (3, .int (iI (acc)))]) C 4 dX2_heldArea_85 rfl (by decide) rfl ?_
        refine J_goto C 34 dX2_heldArea_88 (by decide) ?_
        have e := isum_step (fun o => bb (zbit (S 18 4) o ∧ S 21 (o * 3 + 2) = S 20 (b * 3 + 2)) * (pcom (S 20) (S 21) b o 0 * pcom (S 20) (S 21) b o 1)) (i := i) (hi := 8) (by omega)
        try dsimp only at e
        rw [bb_mul_f (by first | assumption | exact ⟨by assumption, by assumption⟩ | (intro h; first | exact absurd h (by assumption) | exact absurd h.1 (by assumption) | exact absurd h.2 (by assumption)))] at e
        refine J_lv [1, 2, 3, 4, 0] rfl ?_
        exact ih _ (by omega) (i + 1) (acc) rfl ⟨by omega, by omega, by omega⟩
      · refine J_iload_n C 3 dX2_heldArea_65 rfl ?_
        refine J_aload_n C 0 dX2_heldArea_66 rfl ?_
        refine J_iload_n C 1 dX2_heldArea_67 rfl ?_
        refine J_iload C 4 dX2_heldArea_68 rfl ?_
        refine J_iconst C dX2_heldArea_70 ?_
        refine J_callV (k := 18) (rest := [.int (iI (acc))]) C (c_common hG S (b) (i) (0) hl (by omega) (by omega) (by omega)) kc_X2_commonLength kl_X2_46 (by rw [hG.2]; decide) (by rw [hG.1]; rfl) rfl dX2_heldArea_71 rfl rfl (by decide) (Nat.le_of_ble_eq_true rfl) (J_ki (fun v6 S6 h6 => ?_))
        obtain ⟨rfl, rfl⟩ := h6
        refine J_aload_n C 0 dX2_heldArea_74 rfl ?_
        refine J_iload_n C 1 dX2_heldArea_75 rfl ?_
        refine J_iload C 4 dX2_heldArea_76 rfl ?_
        refine J_iconst C dX2_heldArea_78 ?_
        refine J_callV (k := 18) (rest := [.int (iI (pcom (S 20) (S 21) (b) (i) (0))), .int (iI (acc))]) C (c_common hG S (b) (i) (1) hl (by omega) (by omega) (by omega)) kc_X2_commonLength kl_X2_46 (by rw [hG.2]; decide) (by rw [hG.1]; rfl) rfl dX2_heldArea_79 rfl rfl (by decide) (Nat.le_of_ble_eq_true rfl) (J_ki (fun v7 S7 h7 => ?_))
        obtain ⟨rfl, rfl⟩ := h7
        refine J_imul C dX2_heldArea_82 ?_
        refine J_iadd C dX2_heldArea_83 ?_
        refine J_istore_n (lv' := [(3, .int (iI ((acc) + ((pcom (S 20) (S 21) (b) (i) (0)) * (pcom (S 20) (S 21) (b) (i) (1)))))), (0, .ref (jad G 18)), (1, .int (iI (b))), (2, .int (iI (S 20 (b * 3 + 2)))), (4, .int (iI (i)))]) C dX2_heldArea_84 (by decide) rfl ?_
        refine J_iinc (lv' := [(4, .int (iI (i + 1))), (3, .int (iI ((acc) + ((pcom (S 20) (S 21) (b) (i) (0)) * (pcom (S 20) (S 21) (b) (i) (1)))))), (0, .ref (jad G 18)), (1, .int (iI (b))), (2, .int (iI (S 20 (b * 3 + 2))))]) C 4 dX2_heldArea_85 rfl (by decide) rfl ?_
        refine J_goto C 34 dX2_heldArea_88 (by decide) ?_
        have e := isum_step (fun o => bb (zbit (S 18 4) o ∧ S 21 (o * 3 + 2) = S 20 (b * 3 + 2)) * (pcom (S 20) (S 21) b o 0 * pcom (S 20) (S 21) b o 1)) (i := i) (hi := 8) (by omega)
        try dsimp only at e
        rw [bb_mul_t (by first | assumption | exact ⟨by assumption, by assumption⟩ | (intro h; first | exact absurd h (by assumption) | exact absurd h.1 (by assumption) | exact absurd h.2 (by assumption)))] at e
        refine J_lv [2, 3, 4, 1, 0] rfl ?_
        exact ih _ (by omega) (i + 1) ((acc) + ((pcom (S 20) (S 21) (b) (i) (0)) * (pcom (S 20) (S 21) (b) (i) (1)))) rfl ⟨by omega, by omega, by omega⟩
theorem c_held {G : jG} (hG : cG G) (S : jMem) (b : Int) (hl : lOK S) (hb : 0 ≤ b ∧ b < 8) : jM G yX2_heldArea cX2_heldArea 5 (some .int) 2 46 [.ref (jad G 18), .int (iI (b))] S (jPi (fun v S' => (if S 20 (b * 3 + 2) = 0 then (S 21 (b * 3 + 0) - S 20 (b * 3 + 0)) * (S 21 (b * 3 + 1) - S 20 (b * 3 + 1)) else isum (pheld (S 18 4) (S 20) (S 21) b) 0 (8 - 0 : Int).toNat) = v ∧ S = S')) := by
  refine jM.of (by decide) (Nat.le_of_ble_eq_true rfl) (fun E C R => ?_)
  show J E G 0 [(0, .ref (jad G 18)), (1, .int (iI (b)))] [] _
  refine J_aload_n C 0 dX2_heldArea_0 rfl ?_
  refine g_X2_15 hG C dX2_heldArea_1 ?_
  refine J_iload_n C 1 dX2_heldArea_4 rfl ?_
  refine J_iconst C dX2_heldArea_5 ?_
  refine J_imul C dX2_heldArea_6 ?_
  refine J_iconst C dX2_heldArea_7 ?_
  refine J_iadd C dX2_heldArea_8 ?_
  refine cald hG C 20 24 (by decide) dX2_heldArea_9 (by omega) (by omega) ?_
  have m1 := hl.2.1 (((b) * (3)) + (2)) (by omega) (by omega)
  refine J_istore_n (lv' := [(2, .int (iI (S 20 (((b) * (3)) + (2))))), (0, .ref (jad G 18)), (1, .int (iI (b)))]) C dX2_heldArea_10 (by decide) rfl ?_
  refine J_iload_n C 0 dX2_heldArea_11 rfl ?_
  refine J_if_ne C 29 dX2_heldArea_12 (by decide) (by omega) (fun h2 => ?_) (fun h2 => ?_)
  · refine J_iconst C dX2_heldArea_29 ?_
    refine J_istore_n (lv' := [(3, .int (iI (0))), (2, .int (iI (S 20 (((b) * (3)) + (2))))), (0, .ref (jad G 18)), (1, .int (iI (b)))]) C dX2_heldArea_30 (by decide) rfl ?_
    refine J_iconst C dX2_heldArea_31 ?_
    refine J_istore (lv' := [(4, .int (iI (0))), (3, .int (iI (0))), (2, .int (iI (S 20 (((b) * (3)) + (2))))), (0, .ref (jad G 18)), (1, .int (iI (b)))]) C dX2_heldArea_32 (by decide) rfl ?_
    refine J_lv [3, 4, 2, 1, 0] rfl ?_
    exact l_held hG C S b hl hb (by assumption) R _ 0 0 rfl ⟨by omega, by omega, by rw [Int.zero_add, if_neg (by assumption)]; rfl⟩
  · refine J_aload_n C 1 dX2_heldArea_15 rfl ?_
    refine J_iload_n C 2 dX2_heldArea_16 rfl ?_
    refine J_iconst C dX2_heldArea_17 ?_
    refine J_callV (k := 18) (rest := []) C (c_extentOf hG S (b) (0) (by omega) (by omega)) kc_X2_extentOf kl_X2_43 (by rw [hG.2]; decide) (by rw [hG.1]; rfl) rfl dX2_heldArea_18 rfl rfl (by decide) (Nat.le_of_ble_eq_true rfl) (J_ki (fun v3 S3 h3 => ?_))
    obtain ⟨rfl, rfl⟩ := h3
    refine J_aload_n C 1 dX2_heldArea_21 rfl ?_
    refine J_iload_n C 2 dX2_heldArea_22 rfl ?_
    refine J_iconst C dX2_heldArea_23 ?_
    refine J_callV (k := 18) (rest := [.int (iI (S 21 (b * 3 + 0) - S 20 (b * 3 + 0)))]) C (c_extentOf hG S (b) (1) (by omega) (by omega)) kc_X2_extentOf kl_X2_43 (by rw [hG.2]; decide) (by rw [hG.1]; rfl) rfl dX2_heldArea_24 rfl rfl (by decide) (Nat.le_of_ble_eq_true rfl) (J_ki (fun v4 S4 h4 => ?_))
    obtain ⟨rfl, rfl⟩ := h4
    refine J_imul C dX2_heldArea_27 ?_
    exact J_iret R C dX2_heldArea_28 (jPi.mk ⟨by rw [if_pos (by assumption)], rfl⟩)
