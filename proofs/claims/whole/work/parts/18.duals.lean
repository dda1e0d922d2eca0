theorem c_lastF {G : jG} (hG : cG G) (S : jMem) (a : Int) (hk : cOK S) (ha : 0 ≤ a ∧ a < 3) : jM G yX1_lastFunction cX1_lastFunction 2 (some .int) 0 0 [.ref (jad G 25), .int (iI (a))] S (jPi (fun v S' => S 2 a / 2 * 2 = v ∧ S = S')) := by
  refine jM.of (by decide) (Nat.le_of_ble_eq_true rfl) (fun E C R => ?_)
  show J E G 0 [(0, .ref (jad G 25)), (1, .int (iI (a)))] [] _
  refine J_aload_n C 0 dX1_lastFunction_0 rfl ?_
  refine g_X1_30 hG C dX1_lastFunction_1 ?_
  refine g_X1_41 hG C dX1_lastFunction_4 ?_
  refine J_iload_n C 1 dX1_lastFunction_7 rfl ?_
  refine cald hG C 2 3 (by decide) dX1_lastFunction_8 (by omega) (by omega) ?_
  have m1 := hk.2.1 (a) (by omega) (by omega)
  refine J_iconst C dX1_lastFunction_9 ?_
  refine J_idiv C dX1_lastFunction_10 (by omega) (by omega) (by omega) (by omega) ?_
  refine J_iconst C dX1_lastFunction_11 ?_
  refine J_imul C dX1_lastFunction_12 ?_
  exact J_iret R C dX1_lastFunction_13 (jPi.mk ⟨by rfl, rfl⟩)
theorem c_isF {G : jG} (hG : cG G) (S : jMem) (a n : Int) (hk : cOK S) (ha : 0 ≤ a ∧ a < 3) (hn : inR n) : jM G yX1_isFunction cX1_isFunction 3 (some .boolean) 1 21 [.ref (jad G 25), .int (iI (a)), .int (iI (n))] S (jPi (fun v S' => bb (0 ≤ n ∧ n ≤ S 2 a / 2 * 2) = v ∧ S = S')) := by
  refine jM.of (by decide) (Nat.le_of_ble_eq_true rfl) (fun E C R => ?_)
  show J E G 0 [(0, .ref (jad G 25)), (1, .int (iI (a))), (2, .int (iI (n)))] [] _
  refine J_iload_n C 2 dX1_isFunction_0 rfl ?_
  refine J_if_lt C 17 dX1_isFunction_1 (by decide) (by omega) (fun h1 => ?_) (fun h1 => ?_)
  · refine J_iconst C dX1_isFunction_17 ?_
    exact J_zret R C dX1_isFunction_18 (by first | exact Or.inl rfl | exact Or.inr rfl | omega) (jPi.mk ⟨by first | exact bb_t (by omega) | exact bb_f (by omega), rfl⟩)
  · refine J_iload_n C 2 dX1_isFunction_4 rfl ?_
    refine J_aload_n C 0 dX1_isFunction_5 rfl ?_
    refine J_iload_n C 1 dX1_isFunction_6 rfl ?_
    refine J_callV (k := 25) (rest := [.int (iI (n))]) C (c_lastF hG S (a) hk (by omega)) kc_X1_lastFunction kl_X1_46 (by rw [hG.2]; decide) (by rw [hG.1]; rfl) rfl dX1_isFunction_7 rfl rfl (by decide) (Nat.le_of_ble_eq_true rfl) (J_ki (fun v2 S2 h2 => ?_))
    obtain ⟨rfl, rfl⟩ := h2
    have q1 := hk.2.1 (a) (by omega) (by omega)
    refine J_icmp_gt C 17 dX1_isFunction_10 (by decide) (by omega) (by omega) (fun h3 => ?_) (fun h3 => ?_)
    · refine J_iconst C dX1_isFunction_17 ?_
      exact J_zret R C dX1_isFunction_18 (by first | exact Or.inl rfl | exact Or.inr rfl | omega) (jPi.mk ⟨by first | exact bb_t (by omega) | exact bb_f (by omega), rfl⟩)
    · refine J_iconst C dX1_isFunction_13 ?_
      refine J_goto C 18 dX1_isFunction_14 (by decide) ?_
      exact J_zret R C dX1_isFunction_18 (by first | exact Or.inl rfl | exact Or.inr rfl | omega) (jPi.mk ⟨by first | exact bb_t (by omega) | exact bb_f (by omega), rfl⟩)
theorem c_valueOf {G : jG} (hG : cG G) (S : jMem) (L n x : Int) (hL : 1 ≤ L ∧ L ≤ 20) (hn : 0 ≤ n ∧ n ≤ L / 2 * 2) (hx : 0 ≤ x ∧ x ≤ L) : jM G yX1_valueOf cX1_valueOf 6 (some .int) 0 0 [.int (iI (L)), .int (iI (n)), .int (iI (x))] S (jPi (fun v S' => pworth L n x = v ∧ S = S')) := by
  refine jM.of (by decide) (Nat.le_of_ble_eq_true rfl) (fun E C R => ?_)
  show J E G 0 [(0, .int (iI (L))), (1, .int (iI (n))), (2, .int (iI (x)))] [] _
  refine J_iload_n C 1 dX1_valueOf_0 rfl ?_
  refine J_if_ne C 6 dX1_valueOf_1 (by decide) (by omega) (fun h1 => ?_) (fun h1 => ?_)
  · refine J_iload_n C 0 dX1_valueOf_6 rfl ?_
    refine J_iconst C dX1_valueOf_7 ?_
    refine J_idiv C dX1_valueOf_8 (by omega) (by omega) (by omega) (by omega) ?_
    refine J_istore_n (lv' := [(3, .int (iI ((L) / (2)))), (0, .int (iI (L))), (1, .int (iI (n))), (2, .int (iI (x)))]) C dX1_valueOf_9 (by decide) rfl ?_
    refine J_iload_n C 2 dX1_valueOf_10 rfl ?_
    refine J_iload_n C 0 dX1_valueOf_11 rfl ?_
    refine J_icmp_gt C 37 dX1_valueOf_12 (by decide) (by omega) (by omega) (fun h2 => ?_) (fun h2 => ?_)
    · refine J_iload_n C 2 dX1_valueOf_37 rfl ?_
      refine J_iload_n C 0 dX1_valueOf_38 rfl ?_
      refine J_isub C dX1_valueOf_39 ?_
      refine J_istore (lv' := [(4, .int (iI ((n) - ((L) / (2))))), (3, .int (iI ((L) / (2)))), (0, .int (iI (L))), (1, .int (iI (n))), (2, .int (iI (x)))]) C dX1_valueOf_40 (by decide) rfl ?_
      refine J_iload_n C 2 dX1_valueOf_42 rfl ?_
      refine J_iload C 0 dX1_valueOf_43 rfl ?_
      refine J_idiv C dX1_valueOf_45 (by omega) (by omega) (by omega) (by omega) ?_
      refine J_istore (lv' := [(5, .int (iI ((L) / ((n) - ((L) / (2)))))), (4, .int (iI ((n) - ((L) / (2))))), (3, .int (iI ((L) / (2)))), (0, .int (iI (L))), (1, .int (iI (n))), (2, .int (iI (x)))]) C dX1_valueOf_46 (by decide) rfl ?_
      refine J_iconst C dX1_valueOf_48 ?_
      refine J_iload_n C 5 dX1_valueOf_49 rfl ?_
      refine J_imul C dX1_valueOf_50 ?_
      refine J_iload_n C 3 dX1_valueOf_51 rfl ?_
      refine J_icmp_ge C 62 dX1_valueOf_52 (by decide) (by omega) (by omega) (fun h3 => ?_) (fun h3 => ?_)
      · refine J_iconst C dX1_valueOf_62 ?_
        refine J_iload_n C 5 dX1_valueOf_63 rfl ?_
        refine J_imul C dX1_valueOf_64 ?_
        refine J_iload_n C 3 dX1_valueOf_65 rfl ?_
        refine J_icmp_ne C 74 dX1_valueOf_66 (by decide) (by omega) (by omega) (fun h4 => ?_) (fun h4 => ?_)
        · refine J_iconst C dX1_valueOf_74 ?_
          refine J_iload C 0 dX1_valueOf_75 rfl ?_
          refine J_iload_n C 3 dX1_valueOf_77 rfl ?_
          refine J_iload_n C 5 dX1_valueOf_78 rfl ?_
          refine J_isub C dX1_valueOf_79 ?_
          refine J_iload C 1 dX1_valueOf_80 rfl ?_
          refine J_idiv C dX1_valueOf_82 (by omega) (by omega) (by omega) (by omega) ?_
          refine J_isub C dX1_valueOf_83 ?_
          refine J_imul C dX1_valueOf_84 ?_
          exact J_iret R C dX1_valueOf_85 (jPi.mk ⟨by unfold pworth; (repeat first | rw [if_pos (by omega)] | rw [if_neg (by omega)]); try omega, rfl⟩)
        · refine J_iload C 0 dX1_valueOf_69 rfl ?_
          refine J_goto C 85 dX1_valueOf_71 (by decide) ?_
          exact J_iret R C dX1_valueOf_85 (jPi.mk ⟨by unfold pworth; (repeat first | rw [if_pos (by omega)] | rw [if_neg (by omega)]); try omega, rfl⟩)
      · refine J_iconst C dX1_valueOf_55 ?_
        refine J_iload_n C 5 dX1_valueOf_56 rfl ?_
        refine J_iload C 1 dX1_valueOf_57 rfl ?_
        refine J_idiv C dX1_valueOf_59 (by omega) (by omega) (by omega) (by omega) ?_
        refine J_imul C dX1_valueOf_60 ?_
        exact J_iret R C dX1_valueOf_61 (jPi.mk ⟨by unfold pworth; (repeat first | rw [if_pos (by omega)] | rw [if_neg (by omega)]); try omega, rfl⟩)
    · refine J_iload_n C 3 dX1_valueOf_15 rfl ?_
      refine J_iload_n C 1 dX1_valueOf_16 rfl ?_
      refine J_iload_n C 2 dX1_valueOf_17 rfl ?_
      refine J_isub C dX1_valueOf_18 ?_
      refine J_icmp_le C 26 dX1_valueOf_19 (by decide) (by omega) (by omega) (fun h5 => ?_) (fun h5 => ?_)
      · refine J_iload_n C 3 dX1_valueOf_26 rfl ?_
        refine J_iload_n C 2 dX1_valueOf_27 rfl ?_
        refine J_icmp_ge C 35 dX1_valueOf_28 (by decide) (by omega) (by omega) (fun h6 => ?_) (fun h6 => ?_)
        · refine J_iload_n C 3 dX1_valueOf_35 rfl ?_
          exact J_iret R C dX1_valueOf_36 (jPi.mk ⟨by unfold pworth; (repeat first | rw [if_pos (by omega)] | rw [if_neg (by omega)]); try omega, rfl⟩)
        · refine J_iconst C dX1_valueOf_31 ?_
          refine J_goto C 36 dX1_valueOf_32 (by decide) ?_
          exact J_iret R C dX1_valueOf_36 (jPi.mk ⟨by unfold pworth; (repeat first | rw [if_pos (by omega)] | rw [if_neg (by omega)]); try omega, rfl⟩)
      · refine J_iload_n C 1 dX1_valueOf_22 rfl ?_
        refine J_goto C 36 dX1_valueOf_23 (by decide) ?_
        exact J_iret R C dX1_valueOf_36 (jPi.mk ⟨by unfold pworth; (repeat first | rw [if_pos (by omega)] | rw [if_neg (by omega)]); try omega, rfl⟩)
  · refine J_iload_n C 2 dX1_valueOf_4 rfl ?_
    exact J_iret R C dX1_valueOf_5 (jPi.mk ⟨by unfold pworth; (repeat first | rw [if_pos (by omega)] | rw [if_neg (by omega)]); try omega, rfl⟩)
theorem c_forget {G : jG} (hG : cG G) (S : jMem) : jM G yX1_forget cX1_forget 1 none 0 0 [.ref (jad G 25)] S (jPv (fun S' => up2 (up2 S 25 8 0) 25 9 0 = S')) := by
  refine jM.of (by decide) (Nat.le_of_ble_eq_true rfl) (fun E C R => ?_)
  show J E G 0 [(0, .ref (jad G 25))] [] _
  refine J_aload_n C 0 dX1_forget_0 rfl ?_
  refine J_iconst C dX1_forget_1 ?_
  refine p_X1_34 hG C (by first | exact Or.inl rfl | exact Or.inr rfl | omega) dX1_forget_2 ?_
  refine J_aload_n C 0 dX1_forget_5 rfl ?_
  refine J_iconst C dX1_forget_6 ?_
  refine p_X1_38 hG C (by first | exact Or.inl rfl | exact Or.inr rfl | omega) dX1_forget_7 ?_
  exact J_vret R C dX1_forget_10 (jPv.mk (by rfl))
theorem c_keep {G : jG} (hG : cG G) (S : jMem) (a b c d : Int) : jM G yX1_keep cX1_keep 5 none 0 0 [.ref (jad G 25), .int (iI (a)), .int (iI (b)), .int (iI (c)), .int (iI (d))] S (jPv (fun S' => up2 (up2 (up2 (up2 S 26 0 a) 26 1 b) 26 2 c) 26 3 d = S')) := by
  refine jM.of (by decide) (Nat.le_of_ble_eq_true rfl) (fun E C R => ?_)
  show J E G 0 [(0, .ref (jad G 25)), (1, .int (iI (a))), (2, .int (iI (b))), (3, .int (iI (c))), (4, .int (iI (d)))] [] _
  refine J_aload_n C 0 dX1_keep_0 rfl ?_
  refine g_X1_9 hG C dX1_keep_1 ?_
  refine J_iconst C dX1_keep_4 ?_
  refine J_iload_n C 1 dX1_keep_5 rfl ?_
  refine cast hG C 26 4 (by decide) dX1_keep_6 (by omega) (by omega) ?_
  refine J_aload_n C 0 dX1_keep_7 rfl ?_
  refine g_X1_9 hG C dX1_keep_8 ?_
  refine J_iconst C dX1_keep_11 ?_
  refine J_iload_n C 2 dX1_keep_12 rfl ?_
  refine cast hG C 26 4 (by decide) dX1_keep_13 (by omega) (by omega) ?_
  refine J_aload_n C 0 dX1_keep_14 rfl ?_
  refine g_X1_9 hG C dX1_keep_15 ?_
  refine J_iconst C dX1_keep_18 ?_
  refine J_iload_n C 3 dX1_keep_19 rfl ?_
  refine cast hG C 26 4 (by decide) dX1_keep_20 (by omega) (by omega) ?_
  refine J_aload_n C 0 dX1_keep_21 rfl ?_
  refine g_X1_9 hG C dX1_keep_22 ?_
  refine J_iconst C dX1_keep_25 ?_
  refine J_iload C 4 dX1_keep_26 rfl ?_
  refine cast hG C 26 4 (by decide) dX1_keep_28 (by omega) (by omega) ?_
  exact J_vret R C dX1_keep_29 (jPv.mk (by rfl))
theorem c_isTried {G : jG} (hG : cG G) (S : jMem) (a n : Int) (ht : 0 ≤ S 31 a ∧ S 31 a ≤ 2147483647) (ha : 0 ≤ a ∧ a < 3) (hn : 0 ≤ n ∧ n < 32) : jM G yX1_isTried cX1_isTried 3 (some .boolean) 0 0 [.ref (jad G 25), .int (iI (a)), .int (iI (n))] S (jPi (fun v S' => bb (zbit (S 31 a) n) = v ∧ S = S')) := by
  refine jM.of (by decide) (Nat.le_of_ble_eq_true rfl) (fun E C R => ?_)
  show J E G 0 [(0, .ref (jad G 25)), (1, .int (iI (a))), (2, .int (iI (n)))] [] _
  have h5 := zdiv_in ht.1 n.toNat
  refine J_aload_n C 0 dX1_isTried_0 rfl ?_
  refine g_X1_27 hG C dX1_isTried_1 ?_
  refine J_iload_n C 1 dX1_isTried_4 rfl ?_
  refine cald hG C 31 3 (by decide) dX1_isTried_5 (by omega) (by omega) ?_
  refine J_iload_n C 2 dX1_isTried_6 rfl ?_
  refine J_ishr C dX1_isTried_7 (by omega) (by omega) (by omega) ?_
  refine J_iconst C dX1_isTried_8 ?_
  refine J_iand C (((S 31 (a)) / 2 ^ (n).toNat) % 2) dX1_isTried_9 (iI_and1 _ (by omega)) ?_
  refine J_iconst C dX1_isTried_10 ?_
  refine J_icmp_ne C 18 dX1_isTried_11 (by decide) (by omega) (by omega) (fun h1 => ?_) (fun h1 => ?_)
  · refine J_iconst C dX1_isTried_18 ?_
    exact J_zret R C dX1_isTried_19 (by first | exact Or.inl rfl | exact Or.inr rfl | omega) (jPi.mk ⟨by first | exact bb_t (by assumption) | exact bb_f (by assumption), rfl⟩)
  · refine J_iconst C dX1_isTried_14 ?_
    refine J_goto C 19 dX1_isTried_15 (by decide) ?_
    exact J_zret R C dX1_isTried_19 (by first | exact Or.inl rfl | exact Or.inr rfl | omega) (jPi.mk ⟨by first | exact bb_t (by assumption) | exact bb_f (by assumption), rfl⟩)
theorem c_binHas {G : jG} (hG : cG G) (S : jMem) (n : Int) (hk : cOK S) (hn : 0 ≤ n ∧ n ≤ 20) : jM G yX1_binHas cX1_binHas 2 (some .int) 0 0 [.ref (jad G 25), .int (iI (n))] S (jPi (fun v S' => S 25 6 * S 27 ((2 * 21 + n) * 21 + S 2 2) = v ∧ S = S')) := by
  refine jM.of (by decide) (Nat.le_of_ble_eq_true rfl) (fun E C R => ?_)
  show J E G 0 [(0, .ref (jad G 25)), (1, .int (iI (n)))] [] _
  refine J_aload_n C 0 dX1_binHas_0 rfl ?_
  refine g_X1_73 hG C dX1_binHas_1 ?_
  refine J_aload_n C 0 dX1_binHas_4 rfl ?_
  refine g_X1_15 hG C dX1_binHas_5 ?_
  refine J_bipush C dX1_binHas_8 (by decide) ?_
  refine J_iload_n C 1 dX1_binHas_10 rfl ?_
  refine J_iadd C dX1_binHas_11 ?_
  refine J_bipush C dX1_binHas_12 (by decide) ?_
  refine J_imul C dX1_binHas_14 ?_
  refine J_aload_n C 0 dX1_binHas_15 rfl ?_
  refine g_X1_30 hG C dX1_binHas_16 ?_
  refine g_X1_41 hG C dX1_binHas_19 ?_
  refine J_iconst C dX1_binHas_22 ?_
  refine cald hG C 2 3 (by decide) dX1_binHas_23 (by omega) (by omega) ?_
  have m1 := hk.2.1 (2) (by omega) (by omega)
  refine J_iadd C dX1_binHas_24 ?_
  refine cald hG C 27 1323 (by decide) dX1_binHas_25 (by omega) (by omega) ?_
  refine J_imul C dX1_binHas_26 ?_
  exact J_iret R C dX1_binHas_27 (jPi.mk ⟨by rfl, rfl⟩)
