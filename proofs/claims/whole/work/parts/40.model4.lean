theorem m_begin {G : jG} (hG : mG G) (S : jMem) (b x : Int) (hb : 0 ≤ b ∧ b < 8) (hx : 0 ≤ x ∧ x < 3) : jM G yX6_begin cX6_begin 3 (some .int) 0 0 [.ref (jad G 0), .int (iI (b)), .int (iI (x))] S (jPi (fun v S' => S 6 (b * 3 + x) = v ∧ S = S')) := by
  refine jM.of (by decide) (Nat.le_of_ble_eq_true rfl) (fun E C R => ?_)
  show J E G 0 [(0, .ref (jad G 0)), (1, .int (iI (b))), (2, .int (iI (x)))] [] _
  refine J_aload_n C 0 dX6_begin_0 rfl ?_
  refine g_X6_25 hG C dX6_begin_1 ?_
  refine J_iconst C dX6_begin_4 ?_
  refine J_iload_n C 1 dX6_begin_5 rfl ?_
  refine J_imul C dX6_begin_6 ?_
  refine J_iload_n C 2 dX6_begin_7 rfl ?_
  refine J_iadd C dX6_begin_8 ?_
  refine mald hG C 6 24 (by decide) dX6_begin_9 (by omega) (by omega) ?_
  exact J_iret R C dX6_begin_10 (jPi.mk ⟨by rw [Int.mul_comm b 3], rfl⟩)
theorem m_end {G : jG} (hG : mG G) (S : jMem) (b x : Int) (hb : 0 ≤ b ∧ b < 8) (hx : 0 ≤ x ∧ x < 3) (hd : 1 ≤ S 5 b ∧ S 5 b ≤ 6) : jM G yX6_end cX6_end 3 (some .int) 2 45 [.ref (jad G 0), .int (iI (b)), .int (iI (x))] S (jPi (fun v S' => men S (b * 3 + x) = v ∧ S = S')) := by
  refine jM.of (by decide) (Nat.le_of_ble_eq_true rfl) (fun E C R => ?_)
  show J E G 0 [(0, .ref (jad G 0)), (1, .int (iI (b))), (2, .int (iI (x)))] [] _
  refine J_aload_n C 0 dX6_end_0 rfl ?_
  refine g_X6_25 hG C dX6_end_1 ?_
  refine J_iconst C dX6_end_4 ?_
  refine J_iload_n C 1 dX6_end_5 rfl ?_
  refine J_imul C dX6_end_6 ?_
  refine J_iload_n C 2 dX6_end_7 rfl ?_
  refine J_iadd C dX6_end_8 ?_
  refine mald hG C 6 24 (by decide) dX6_end_9 (by omega) (by omega) ?_
  refine J_aload_n C 0 dX6_end_10 rfl ?_
  refine J_iload_n C 1 dX6_end_11 rfl ?_
  refine J_aload_n C 0 dX6_end_12 rfl ?_
  refine g_X6_22 hG C dX6_end_13 ?_
  refine J_iload_n C 1 dX6_end_16 rfl ?_
  refine mald hG C 5 8 (by decide) dX6_end_17 (by omega) (by omega) ?_
  refine J_iconst C dX6_end_18 ?_
  refine J_isub C dX6_end_19 ?_
  refine J_iload_n C 2 dX6_end_20 rfl ?_
  refine J_callV (k := 0) (rest := [.int (iI (S 6 (((3) * (b)) + (x))))]) C (m_extent hG S (b) ((S 5 (b)) - (1)) (x) (by omega) (by omega) (by omega)) kc_X6_extent kl_X6_121 (by rw [hG.2]; decide) (by rw [hG.1]; rfl) rfl dX6_end_21 rfl rfl (by decide) (Nat.le_of_ble_eq_true rfl) (J_ki (fun v1 S1 h1 => ?_))
  obtain ⟨rfl, rfl⟩ := h1
  refine J_iadd C dX6_end_24 ?_
  exact J_iret R C dX6_end_25 (jPi.mk ⟨by rw [men_at S hx, Int.mul_comm b 3], rfl⟩)
theorem m_apart {G : jG} (hG : mG G) (S : jMem) (a b : Int) (hk : mOK S) (hl : mlOK S) (ha : 0 ≤ a ∧ a < 8) (hb : 0 ≤ b ∧ b < 8) (da : 1 ≤ S 5 a ∧ S 5 a ≤ 6) (db : 1 ≤ S 5 b ∧ S 5 b ≤ 6) : jM G yX6_apart cX6_apart 4 (some .int) 3 67 [.ref (jad G 0), .int (iI (a)), .int (iI (b))] S (jPi (fun v S' => pgap (S 6) (men S) a b = v ∧ S = S')) := by
  refine jM.of (by decide) (Nat.le_of_ble_eq_true rfl) (fun E C R => ?_)
  show J E G 0 [(0, .ref (jad G 0)), (1, .int (iI (a))), (2, .int (iI (b)))] [] _
  refine J_iconst C dX6_apart_0 ?_
  refine J_istore_n (lv' := [(3, .int (iI (0))), (0, .ref (jad G 0)), (1, .int (iI (a))), (2, .int (iI (b)))]) C dX6_apart_1 (by decide) rfl ?_
  refine J_iload_n C 0 dX6_apart_2 rfl ?_
  refine J_iconst C dX6_apart_3 ?_
  refine J_icmp_ge C 53 dX6_apart_4 (by decide) (by omega) (by omega) (fun h => absurd h (by omega)) (fun _ => ?_)
  refine J_aload_n C 1 dX6_apart_7 rfl ?_
  refine J_iload_n C 2 dX6_apart_8 rfl ?_
  refine J_iload_n C 0 dX6_apart_9 rfl ?_
  refine J_callV (k := 0) (rest := []) C (m_end hG S (a) (0) (by omega) (by omega) (by omega)) kc_X6_end kl_X6_165 (by rw [hG.2]; decide) (by rw [hG.1]; rfl) rfl dX6_apart_10 rfl rfl (by decide) (Nat.le_of_ble_eq_true rfl) (J_ki (fun v2 S2 h2 => ?_))
  obtain ⟨rfl, rfl⟩ := h2
  have q1 := men_in hk hl (b := a) (x := 0) (by omega) (by omega)
  refine J_aload_n C 1 dX6_apart_13 rfl ?_
  refine J_iload_n C 3 dX6_apart_14 rfl ?_
  refine J_iload_n C 0 dX6_apart_15 rfl ?_
  refine J_callV (k := 0) (rest := [.int (iI (men S (a * 3 + 0)))]) C (m_begin hG S (b) (0) (by omega) (by omega)) kc_X6_begin kl_X6_162 (by rw [hG.2]; decide) (by rw [hG.1]; rfl) rfl dX6_apart_16 rfl rfl (by decide) (Nat.le_of_ble_eq_true rfl) (J_ki (fun v3 S3 h3 => ?_))
  obtain ⟨rfl, rfl⟩ := h3
  have q2 := hl.2.1 (b * 3 + 0) (by omega) (by omega)
  refine J_icmp_gt C 26 dX6_apart_19 (by decide) (by omega) (by omega) (fun h4 => ?_) (fun h4 => ?_)
  · refine J_aload_n C 1 dX6_apart_26 rfl ?_
    refine J_iload_n C 3 dX6_apart_27 rfl ?_
    refine J_iload_n C 0 dX6_apart_28 rfl ?_
    refine J_callV (k := 0) (rest := []) C (m_end hG S (b) (0) (by omega) (by omega) (by omega)) kc_X6_end kl_X6_165 (by rw [hG.2]; decide) (by rw [hG.1]; rfl) rfl dX6_apart_29 rfl rfl (by decide) (Nat.le_of_ble_eq_true rfl) (J_ki (fun v5 S5 h5 => ?_))
    obtain ⟨rfl, rfl⟩ := h5
    have q3 := men_in hk hl (b := b) (x := 0) (by omega) (by omega)
    refine J_aload_n C 1 dX6_apart_32 rfl ?_
    refine J_iload_n C 2 dX6_apart_33 rfl ?_
    refine J_iload_n C 0 dX6_apart_34 rfl ?_
    refine J_callV (k := 0) (rest := [.int (iI (men S (b * 3 + 0)))]) C (m_begin hG S (a) (0) (by omega) (by omega)) kc_X6_begin kl_X6_162 (by rw [hG.2]; decide) (by rw [hG.1]; rfl) rfl dX6_apart_35 rfl rfl (by decide) (Nat.le_of_ble_eq_true rfl) (J_ki (fun v6 S6 h6 => ?_))
    obtain ⟨rfl, rfl⟩ := h6
    have q4 := hl.2.1 (a * 3 + 0) (by omega) (by omega)
    refine J_icmp_gt C 47 dX6_apart_38 (by decide) (by omega) (by omega) (fun h7 => ?_) (fun h7 => ?_)
    · refine J_iinc (lv' := [(3, .int (iI (1))), (0, .ref (jad G 0)), (1, .int (iI (a))), (2, .int (iI (b)))]) C 0 dX6_apart_47 rfl (by decide) rfl ?_
      refine J_goto C 2 dX6_apart_50 (by decide) ?_
      refine J_iload_n C 0 dX6_apart_2 rfl ?_
      refine J_iconst C dX6_apart_3 ?_
      refine J_icmp_ge C 53 dX6_apart_4 (by decide) (by omega) (by omega) (fun h => absurd h (by omega)) (fun _ => ?_)
      refine J_aload_n C 1 dX6_apart_7 rfl ?_
      refine J_iload_n C 2 dX6_apart_8 rfl ?_
      refine J_iload_n C 0 dX6_apart_9 rfl ?_
      refine J_callV (k := 0) (rest := []) C (m_end hG S (a) (1) (by omega) (by omega) (by omega)) kc_X6_end kl_X6_165 (by rw [hG.2]; decide) (by rw [hG.1]; rfl) rfl dX6_apart_10 rfl rfl (by decide) (Nat.le_of_ble_eq_true rfl) (J_ki (fun v9 S9 h9 => ?_))
      obtain ⟨rfl, rfl⟩ := h9
      have q5 := men_in hk hl (b := a) (x := 1) (by omega) (by omega)
      refine J_aload_n C 1 dX6_apart_13 rfl ?_
      refine J_iload_n C 3 dX6_apart_14 rfl ?_
      refine J_iload_n C 0 dX6_apart_15 rfl ?_
      refine J_callV (k := 0) (rest := [.int (iI (men S (a * 3 + 1)))]) C (m_begin hG S (b) (1) (by omega) (by omega)) kc_X6_begin kl_X6_162 (by rw [hG.2]; decide) (by rw [hG.1]; rfl) rfl dX6_apart_16 rfl rfl (by decide) (Nat.le_of_ble_eq_true rfl) (J_ki (fun v10 S10 h10 => ?_))
      obtain ⟨rfl, rfl⟩ := h10
      have q6 := hl.2.1 (b * 3 + 1) (by omega) (by omega)
      refine J_icmp_gt C 26 dX6_apart_19 (by decide) (by omega) (by omega) (fun h11 => ?_) (fun h11 => ?_)
      · refine J_aload_n C 1 dX6_apart_26 rfl ?_
        refine J_iload_n C 3 dX6_apart_27 rfl ?_
        refine J_iload_n C 0 dX6_apart_28 rfl ?_
        refine J_callV (k := 0) (rest := []) C (m_end hG S (b) (1) (by omega) (by omega) (by omega)) kc_X6_end kl_X6_165 (by rw [hG.2]; decide) (by rw [hG.1]; rfl) rfl dX6_apart_29 rfl rfl (by decide) (Nat.le_of_ble_eq_true rfl) (J_ki (fun v12 S12 h12 => ?_))
        obtain ⟨rfl, rfl⟩ := h12
        have q7 := men_in hk hl (b := b) (x := 1) (by omega) (by omega)
        refine J_aload_n C 1 dX6_apart_32 rfl ?_
        refine J_iload_n C 2 dX6_apart_33 rfl ?_
        refine J_iload_n C 0 dX6_apart_34 rfl ?_
        refine J_callV (k := 0) (rest := [.int (iI (men S (b * 3 + 1)))]) C (m_begin hG S (a) (1) (by omega) (by omega)) kc_X6_begin kl_X6_162 (by rw [hG.2]; decide) (by rw [hG.1]; rfl) rfl dX6_apart_35 rfl rfl (by decide) (Nat.le_of_ble_eq_true rfl) (J_ki (fun v13 S13 h13 => ?_))
        obtain ⟨rfl, rfl⟩ := h13
        have q8 := hl.2.1 (a * 3 + 1) (by omega) (by omega)
        refine J_icmp_gt C 47 dX6_apart_38 (by decide) (by omega) (by omega) (fun h14 => ?_) (fun h14 => ?_)
        · refine J_iinc (lv' := [(3, .int (iI (2))), (0, .ref (jad G 0)), (1, .int (iI (a))), (2, .int (iI (b)))]) C 0 dX6_apart_47 rfl (by decide) rfl ?_
          refine J_goto C 2 dX6_apart_50 (by decide) ?_
          refine J_iload_n C 0 dX6_apart_2 rfl ?_
          refine J_iconst C dX6_apart_3 ?_
          refine J_icmp_ge C 53 dX6_apart_4 (by decide) (by omega) (by omega) (fun h => absurd h (by omega)) (fun _ => ?_)
          refine J_aload_n C 1 dX6_apart_7 rfl ?_
          refine J_iload_n C 2 dX6_apart_8 rfl ?_
          refine J_iload_n C 0 dX6_apart_9 rfl ?_
          refine J_callV (k := 0) (rest := []) C (m_end hG S (a) (2) (by omega) (by omega) (by omega)) kc_X6_end kl_X6_165 (by rw [hG.2]; decide) (by rw [hG.1]; rfl) rfl dX6_apart_10 rfl rfl (by decide) (Nat.le_of_ble_eq_true rfl) (J_ki (fun v16 S16 h16 => ?_))
          obtain ⟨rfl, rfl⟩ := h16
          have q9 := men_in hk hl (b := a) (x := 2) (by omega) (by omega)
          refine J_aload_n C 1 dX6_apart_13 rfl ?_
          refine J_iload_n C 3 dX6_apart_14 rfl ?_
          refine J_iload_n C 0 dX6_apart_15 rfl ?_
          refine J_callV (k := 0) (rest := [.int (iI (men S (a * 3 + 2)))]) C (m_begin hG S (b) (2) (by omega) (by omega)) kc_X6_begin kl_X6_162 (by rw [hG.2]; decide) (by rw [hG.1]; rfl) rfl dX6_apart_16 rfl rfl (by decide) (Nat.le_of_ble_eq_true rfl) (J_ki (fun v17 S17 h17 => ?_))
          obtain ⟨rfl, rfl⟩ := h17
          have q10 := hl.2.1 (b * 3 + 2) (by omega) (by omega)
          refine J_icmp_gt C 26 dX6_apart_19 (by decide) (by omega) (by omega) (fun h18 => ?_) (fun h18 => ?_)
          · refine J_aload_n C 1 dX6_apart_26 rfl ?_
            refine J_iload_n C 3 dX6_apart_27 rfl ?_
            refine J_iload_n C 0 dX6_apart_28 rfl ?_
            refine J_callV (k := 0) (rest := []) C (m_end hG S (b) (2) (by omega) (by omega) (by omega)) kc_X6_end kl_X6_165 (by rw [hG.2]; decide) (by rw [hG.1]; rfl) rfl dX6_apart_29 rfl rfl (by decide) (Nat.le_of_ble_eq_true rfl) (J_ki (fun v19 S19 h19 => ?_))
            obtain ⟨rfl, rfl⟩ := h19
            have q11 := men_in hk hl (b := b) (x := 2) (by omega) (by omega)
            refine J_aload_n C 1 dX6_apart_32 rfl ?_
            refine J_iload_n C 2 dX6_apart_33 rfl ?_
            refine J_iload_n C 0 dX6_apart_34 rfl ?_
            refine J_callV (k := 0) (rest := [.int (iI (men S (b * 3 + 2)))]) C (m_begin hG S (a) (2) (by omega) (by omega)) kc_X6_begin kl_X6_162 (by rw [hG.2]; decide) (by rw [hG.1]; rfl) rfl dX6_apart_35 rfl rfl (by decide) (Nat.le_of_ble_eq_true rfl) (J_ki (fun v20 S20 h20 => ?_))
            obtain ⟨rfl, rfl⟩ := h20
            have q12 := hl.2.1 (a * 3 + 2) (by omega) (by omega)
            refine J_icmp_gt C 47 dX6_apart_38 (by decide) (by omega) (by omega) (fun h21 => ?_) (fun h21 => ?_)
            · refine J_iinc (lv' := [(3, .int (iI (3))), (0, .ref (jad G 0)), (1, .int (iI (a))), (2, .int (iI (b)))]) C 0 dX6_apart_47 rfl (by decide) rfl ?_
              refine J_goto C 2 dX6_apart_50 (by decide) ?_
              refine J_iload_n C 0 dX6_apart_2 rfl ?_
              refine J_iconst C dX6_apart_3 ?_
              refine J_icmp_ge C 53 dX6_apart_4 (by decide) (by omega) (by omega) (fun _ => ?_) (fun h => absurd h (by omega))
              refine J_bipush C dX6_apart_53 (by decide) ?_
              exact J_iret R C dX6_apart_55 (jPi.mk ⟨by unfold pgap; (repeat first | rw [if_pos (by omega)] | rw [if_neg (by omega)]); try omega, rfl⟩)
            · refine J_iconst C dX6_apart_41 ?_
              refine J_iload_n C 0 dX6_apart_42 rfl ?_
              refine J_imul C dX6_apart_43 ?_
              refine J_iconst C dX6_apart_44 ?_
              refine J_iadd C dX6_apart_45 ?_
              exact J_iret R C dX6_apart_46 (jPi.mk ⟨by unfold pgap; (repeat first | rw [if_pos (by omega)] | rw [if_neg (by omega)]); try omega, rfl⟩)
          · refine J_iconst C dX6_apart_22 ?_
            refine J_iload_n C 0 dX6_apart_23 rfl ?_
            refine J_imul C dX6_apart_24 ?_
            exact J_iret R C dX6_apart_25 (jPi.mk ⟨by unfold pgap; (repeat first | rw [if_pos (by omega)] | rw [if_neg (by omega)]); try omega, rfl⟩)
        · refine J_iconst C dX6_apart_41 ?_
          refine J_iload_n C 0 dX6_apart_42 rfl ?_
          refine J_imul C dX6_apart_43 ?_
          refine J_iconst C dX6_apart_44 ?_
          refine J_iadd C dX6_apart_45 ?_
          exact J_iret R C dX6_apart_46 (jPi.mk ⟨by unfold pgap; (repeat first | rw [if_pos (by omega)] | rw [if_neg (by omega)]); try omega, rfl⟩)
      · refine J_iconst C dX6_apart_22 ?_
        refine J_iload_n C 0 dX6_apart_23 rfl ?_
        refine J_imul C dX6_apart_24 ?_
        exact J_iret R C dX6_apart_25 (jPi.mk ⟨by unfold pgap; (repeat first | rw [if_pos (by omega)] | rw [if_neg (by omega)]); try omega, rfl⟩)
    · refine J_iconst C dX6_apart_41 ?_
      refine J_iload_n C 0 dX6_apart_42 rfl ?_
      refine J_imul C dX6_apart_43 ?_
      refine J_iconst C dX6_apart_44 ?_
      refine J_iadd C dX6_apart_45 ?_
      exact J_iret R C dX6_apart_46 (jPi.mk ⟨by unfold pgap; (repeat first | rw [if_pos (by omega)] | rw [if_neg (by omega)]); try omega, rfl⟩)
  · refine J_iconst C dX6_apart_22 ?_
    refine J_iload_n C 0 dX6_apart_23 rfl ?_
    refine J_imul C dX6_apart_24 ?_
    exact J_iret R C dX6_apart_25 (jPi.mk ⟨by unfold pgap; (repeat first | rw [if_pos (by omega)] | rw [if_neg (by omega)]); try omega, rfl⟩)
theorem m_common {G : jG} (hG : mG G) (S : jMem) (a b x : Int) (hk : mOK S) (hl : mlOK S) (ha : 0 ≤ a ∧ a < 8) (hb : 0 ≤ b ∧ b < 8) (da : 1 ≤ S 5 a ∧ S 5 a ≤ 6) (db : 1 ≤ S 5 b ∧ S 5 b ≤ 6) (hx : 0 ≤ x ∧ x < 3) : jM G yX6_common cX6_common 6 (some .int) 3 67 [.ref (jad G 0), .int (iI (a)), .int (iI (b)), .int (iI (x))] S (jPi (fun v S' => pcom (S 6) (men S) a b x = v ∧ S = S')) := by
  refine jM.of (by decide) (Nat.le_of_ble_eq_true rfl) (fun E C R => ?_)
  show J E G 0 [(0, .ref (jad G 0)), (1, .int (iI (a))), (2, .int (iI (b))), (3, .int (iI (x)))] [] _
  refine J_aload_n C 0 dX6_common_0 rfl ?_
  refine J_iload_n C 1 dX6_common_1 rfl ?_
  refine J_iload_n C 3 dX6_common_2 rfl ?_
  refine J_callV (k := 0) (rest := []) C (m_begin hG S (a) (x) (by omega) (by omega)) kc_X6_begin kl_X6_162 (by rw [hG.2]; decide) (by rw [hG.1]; rfl) rfl dX6_common_3 rfl rfl (by decide) (Nat.le_of_ble_eq_true rfl) (J_ki (fun v1 S1 h1 => ?_))
  obtain ⟨rfl, rfl⟩ := h1
  have q13 := hl.2.1 (a * 3 + x) (by omega) (by omega)
  refine J_aload_n C 0 dX6_common_6 rfl ?_
  refine J_iload_n C 2 dX6_common_7 rfl ?_
  refine J_iload_n C 3 dX6_common_8 rfl ?_
  refine J_callV (k := 0) (rest := [.int (iI (S 6 (a * 3 + x)))]) C (m_begin hG S (b) (x) (by omega) (by omega)) kc_X6_begin kl_X6_162 (by rw [hG.2]; decide) (by rw [hG.1]; rfl) rfl dX6_common_9 rfl rfl (by decide) (Nat.le_of_ble_eq_true rfl) (J_ki (fun v2 S2 h2 => ?_))
  obtain ⟨rfl, rfl⟩ := h2
  have q14 := hl.2.1 (b * 3 + x) (by omega) (by omega)
  refine J_icmp_le C 24 dX6_common_12 (by decide) (by omega) (by omega) (fun h3 => ?_) (fun h3 => ?_)
  · refine J_aload_n C 0 dX6_common_24 rfl ?_
    refine J_iload_n C 2 dX6_common_25 rfl ?_
    refine J_iload_n C 3 dX6_common_26 rfl ?_
    refine J_callV (k := 0) (rest := []) C (m_begin hG S (b) (x) (by omega) (by omega)) kc_X6_begin kl_X6_162 (by rw [hG.2]; decide) (by rw [hG.1]; rfl) rfl dX6_common_27 rfl rfl (by decide) (Nat.le_of_ble_eq_true rfl) (J_ki (fun v4 S4 h4 => ?_))
    obtain ⟨rfl, rfl⟩ := h4
    have q15 := hl.2.1 (b * 3 + x) (by omega) (by omega)
    refine J_istore (lv' := [(4, .int (iI (S 6 (b * 3 + x)))), (0, .ref (jad G 0)), (1, .int (iI (a))), (2, .int (iI (b))), (3, .int (iI (x)))]) C dX6_common_30 (by decide) rfl ?_
    refine J_aload_n C 1 dX6_common_32 rfl ?_
    refine J_iload_n C 2 dX6_common_33 rfl ?_
    refine J_iload_n C 4 dX6_common_34 rfl ?_
    refine J_callV (k := 0) (rest := []) C (m_end hG S (a) (x) (by omega) (by omega) (by omega)) kc_X6_end kl_X6_165 (by rw [hG.2]; decide) (by rw [hG.1]; rfl) rfl dX6_common_35 rfl rfl (by decide) (Nat.le_of_ble_eq_true rfl) (J_ki (fun v5 S5 h5 => ?_))
    obtain ⟨rfl, rfl⟩ := h5
    have q16 := men_in hk hl (b := a) (x := x) (by omega) (by omega)
    refine J_aload_n C 1 dX6_common_38 rfl ?_
    refine J_iload_n C 3 dX6_common_39 rfl ?_
    refine J_iload_n C 4 dX6_common_40 rfl ?_
    refine J_callV (k := 0) (rest := [.int (iI (men S (a * 3 + x)))]) C (m_end hG S (b) (x) (by omega) (by omega) (by omega)) kc_X6_end kl_X6_165 (by rw [hG.2]; decide) (by rw [hG.1]; rfl) rfl dX6_common_41 rfl rfl (by decide) (Nat.le_of_ble_eq_true rfl) (J_ki (fun v6 S6 h6 => ?_))
    obtain ⟨rfl, rfl⟩ := h6
    have q17 := men_in hk hl (b := b) (x := x) (by omega) (by omega)
    refine J_icmp_ge C 56 dX6_common_44 (by decide) (by omega) (by omega) (fun h7 => ?_) (fun h7 => ?_)
    · refine J_aload_n C 1 dX6_common_56 rfl ?_
      refine J_iload_n C 3 dX6_common_57 rfl ?_
      refine J_iload_n C 4 dX6_common_58 rfl ?_
      refine J_callV (k := 0) (rest := []) C (m_end hG S (b) (x) (by omega) (by omega) (by omega)) kc_X6_end kl_X6_165 (by rw [hG.2]; decide) (by rw [hG.1]; rfl) rfl dX6_common_59 rfl rfl (by decide) (Nat.le_of_ble_eq_true rfl) (J_ki (fun v8 S8 h8 => ?_))
      obtain ⟨rfl, rfl⟩ := h8
      have q18 := men_in hk hl (b := b) (x := x) (by omega) (by omega)
      refine J_istore (lv' := [(5, .int (iI (men S (b * 3 + x)))), (4, .int (iI (S 6 (b * 3 + x)))), (0, .ref (jad G 0)), (1, .int (iI (a))), (2, .int (iI (b))), (3, .int (iI (x)))]) C dX6_common_62 (by decide) rfl ?_
      refine J_iload C 0 dX6_common_64 rfl ?_
      refine J_iload C 1 dX6_common_66 rfl ?_
      refine J_icmp_le C 79 dX6_common_68 (by decide) (by omega) (by omega) (fun h9 => ?_) (fun h9 => ?_)
      · refine J_iconst C dX6_common_79 ?_
        exact J_iret R C dX6_common_80 (jPi.mk ⟨by unfold pcom; omega, rfl⟩)
      · refine J_iload C 0 dX6_common_71 rfl ?_
        refine J_iload C 1 dX6_common_73 rfl ?_
        refine J_isub C dX6_common_75 ?_
        refine J_goto C 80 dX6_common_76 (by decide) ?_
        exact J_iret R C dX6_common_80 (jPi.mk ⟨by unfold pcom; omega, rfl⟩)
    · refine J_aload_n C 1 dX6_common_47 rfl ?_
      refine J_iload_n C 2 dX6_common_48 rfl ?_
      refine J_iload_n C 4 dX6_common_49 rfl ?_
      refine J_callV (k := 0) (rest := []) C (m_end hG S (a) (x) (by omega) (by omega) (by omega)) kc_X6_end kl_X6_165 (by rw [hG.2]; decide) (by rw [hG.1]; rfl) rfl dX6_common_50 rfl rfl (by decide) (Nat.le_of_ble_eq_true rfl) (J_ki (fun v10 S10 h10 => ?_))
      obtain ⟨rfl, rfl⟩ := h10
      have q19 := men_in hk hl (b := a) (x := x) (by omega) (by omega)
      refine J_goto C 62 dX6_common_53 (by decide) ?_
      refine J_istore (lv' := [(5, .int (iI (men S (a * 3 + x)))), (4, .int (iI (S 6 (b * 3 + x)))), (0, .ref (jad G 0)), (1, .int (iI (a))), (2, .int (iI (b))), (3, .int (iI (x)))]) C dX6_common_62 (by decide) rfl ?_
      refine J_iload C 0 dX6_common_64 rfl ?_
      refine J_iload C 1 dX6_common_66 rfl ?_
      refine J_icmp_le C 79 dX6_common_68 (by decide) (by omega) (by omega) (fun h11 => ?_) (fun h11 => ?_)
      · refine J_iconst C dX6_common_79 ?_
        exact J_iret R C dX6_common_80 (jPi.mk ⟨by unfold pcom; omega, rfl⟩)
      · refine J_iload C 0 dX6_common_71 rfl ?_
        refine J_iload C 1 dX6_common_73 rfl ?_
        refine J_isub C dX6_common_75 ?_
        refine J_goto C 80 dX6_common_76 (by decide) ?_
        exact J_iret R C dX6_common_80 (jPi.mk ⟨by unfold pcom; omega, rfl⟩)
  · refine J_aload_n C 0 dX6_common_15 rfl ?_
    refine J_iload_n C 1 dX6_common_16 rfl ?_
    refine J_iload_n C 3 dX6_common_17 rfl ?_
    refine J_callV (k := 0) (rest := []) C (m_begin hG S (a) (x) (by omega) (by omega)) kc_X6_begin kl_X6_162 (by rw [hG.2]; decide) (by rw [hG.1]; rfl) rfl dX6_common_18 rfl rfl (by decide) (Nat.le_of_ble_eq_true rfl) (J_ki (fun v12 S12 h12 => ?_))
    obtain ⟨rfl, rfl⟩ := h12
    have q20 := hl.2.1 (a * 3 + x) (by omega) (by omega)
    refine J_goto C 30 dX6_common_21 (by decide) ?_
    refine J_istore (lv' := [(4, .int (iI (S 6 (a * 3 + x)))), (0, .ref (jad G 0)), (1, .int (iI (a))), (2, .int (iI (b))), (3, .int (iI (x)))]) C dX6_common_30 (by decide) rfl ?_
    refine J_aload_n C 1 dX6_common_32 rfl ?_
    refine J_iload_n C 2 dX6_common_33 rfl ?_
    refine J_iload_n C 4 dX6_common_34 rfl ?_
    refine J_callV (k := 0) (rest := []) C (m_end hG S (a) (x) (by omega) (by omega) (by omega)) kc_X6_end kl_X6_165 (by rw [hG.2]; decide) (by rw [hG.1]; rfl) rfl dX6_common_35 rfl rfl (by decide) (Nat.le_of_ble_eq_true rfl) (J_ki (fun v13 S13 h13 => ?_))
    obtain ⟨rfl, rfl⟩ := h13
    have q21 := men_in hk hl (b := a) (x := x) (by omega) (by omega)
    refine J_aload_n C 1 dX6_common_38 rfl ?_
    refine J_iload_n C 3 dX6_common_39 rfl ?_
    refine J_iload_n C 4 dX6_common_40 rfl ?_
    refine J_callV (k := 0) (rest := [.int (iI (men S (a * 3 + x)))]) C (m_end hG S (b) (x) (by omega) (by omega) (by omega)) kc_X6_end kl_X6_165 (by rw [hG.2]; decide) (by rw [hG.1]; rfl) rfl dX6_common_41 rfl rfl (by decide) (Nat.le_of_ble_eq_true rfl) (J_ki (fun v14 S14 h14 => ?_))
    obtain ⟨rfl, rfl⟩ := h14
    have q22 := men_in hk hl (b := b) (x := x) (by omega) (by omega)
    refine J_icmp_ge C 56 dX6_common_44 (by decide) (by omega) (by omega) (fun h15 => ?_) (fun h15 => ?_)
    · refine J_aload_n C 1 dX6_common_56 rfl ?_
      refine J_iload_n C 3 dX6_common_57 rfl ?_
      refine J_iload_n C 4 dX6_common_58 rfl ?_
      refine J_callV (k := 0) (rest := []) C (m_end hG S (b) (x) (by omega) (by omega) (by omega)) kc_X6_end kl_X6_165 (by rw [hG.2]; decide) (by rw [hG.1]; rfl) rfl dX6_common_59 rfl rfl (by decide) (Nat.le_of_ble_eq_true rfl) (J_ki (fun v16 S16 h16 => ?_))
      obtain ⟨rfl, rfl⟩ := h16
      have q23 := men_in hk hl (b := b) (x := x) (by omega) (by omega)
      refine J_istore (lv' := [(5, .int (iI (men S (b * 3 + x)))), (4, .int (iI (S 6 (a * 3 + x)))), (0, .ref (jad G 0)), (1, .int (iI (a))), (2, .int (iI (b))), (3, .int (iI (x)))]) C dX6_common_62 (by decide) rfl ?_
      refine J_iload C 0 dX6_common_64 rfl ?_
      refine J_iload C 1 dX6_common_66 rfl ?_
      refine J_icmp_le C 79 dX6_common_68 (by decide) (by omega) (by omega) (fun h17 => ?_) (fun h17 => ?_)
      · refine J_iconst C dX6_common_79 ?_
        exact J_iret R C dX6_common_80 (jPi.mk ⟨by unfold pcom; omega, rfl⟩)
      · refine J_iload C 0 dX6_common_71 rfl ?_
        refine J_iload C 1 dX6_common_73 rfl ?_
        refine J_isub C dX6_common_75 ?_
        refine J_goto C 80 dX6_common_76 (by decide) ?_
        exact J_iret R C dX6_common_80 (jPi.mk ⟨by unfold pcom; omega, rfl⟩)
    · refine J_aload_n C 1 dX6_common_47 rfl ?_
      refine J_iload_n C 2 dX6_common_48 rfl ?_
      refine J_iload_n C 4 dX6_common_49 rfl ?_
      refine J_callV (k := 0) (rest := []) C (m_end hG S (a) (x) (by omega) (by omega) (by omega)) kc_X6_end kl_X6_165 (by rw [hG.2]; decide) (by rw [hG.1]; rfl) rfl dX6_common_50 rfl rfl (by decide) (Nat.le_of_ble_eq_true rfl) (J_ki (fun v18 S18 h18 => ?_))
      obtain ⟨rfl, rfl⟩ := h18
      have q24 := men_in hk hl (b := a) (x := x) (by omega) (by omega)
      refine J_goto C 62 dX6_common_53 (by decide) ?_
      refine J_istore (lv' := [(5, .int (iI (men S (a * 3 + x)))), (4, .int (iI (S 6 (a * 3 + x)))), (0, .ref (jad G 0)), (1, .int (iI (a))), (2, .int (iI (b))), (3, .int (iI (x)))]) C dX6_common_62 (by decide) rfl ?_
      refine J_iload C 0 dX6_common_64 rfl ?_
      refine J_iload C 1 dX6_common_66 rfl ?_
      refine J_icmp_le C 79 dX6_common_68 (by decide) (by omega) (by omega) (fun h19 => ?_) (fun h19 => ?_)
      · refine J_iconst C dX6_common_79 ?_
        exact J_iret R C dX6_common_80 (jPi.mk ⟨by unfold pcom; omega, rfl⟩)
      · refine J_iload C 0 dX6_common_71 rfl ?_
        refine J_iload C 1 dX6_common_73 rfl ?_
        refine J_isub C dX6_common_75 ?_
        refine J_goto C 80 dX6_common_76 (by decide) ?_
        exact J_iret R C dX6_common_80 (jPi.mk ⟨by unfold pcom; omega, rfl⟩)
theorem lm_ov2 {E : jEnv} {G : jG} (hG : mG G) (C : jX E G cX6_overlaps 4 RX6 4 90) (S : jMem) (hk : mOK S) (hl : mlOK S) (a tt : Int) (ha : 0 ≤ a ∧ a < S 0 1) : ∀ (mm : Nat) (b acc : Int), mm = (a - b).toNat → (0 ≤ b ∧ b ≤ a ∧ acc + isum (movl S a) b (a - b).toNat = tt) → J E G 62 [(0, .ref (jad G 0)), (1, .int (iI tt)), (2, .int (iI a))] [] S → J E G 14 [(0, .ref (jad G 0)), (1, .int (iI (acc))), (2, .int (iI (a))), (3, .int (iI (b)))] [] S := by
  intro mm
  induction mm using Nat.strongRecOn with | ind mm ih => ?_
  intro b acc hm hi K
  have hn := hk.1
  refine J_iload_n C 3 dX6_overlaps_14 rfl ?_
  refine J_iload_n C 2 dX6_overlaps_15 rfl ?_
  refine J_icmp_ge C 62 dX6_overlaps_16 (by decide) (by omega) (by omega) (fun h1 => ?_) (fun h1 => ?_)
  · have e := isum_end (movl S a) (i := b) (hi := a) (by omega)
    refine J_lv [0, 1, 2] rfl ?_
    have e2 : acc = tt := by omega
    rw [e2]
    exact K
  · refine J_iload_n C 1 dX6_overlaps_19 rfl ?_
    refine J_aload_n C 0 dX6_overlaps_20 rfl ?_
    refine g_X6_22 hG C dX6_overlaps_21 ?_
    refine J_iload_n C 2 dX6_overlaps_24 rfl ?_
    refine mald hG C 5 8 (by decide) dX6_overlaps_25 (by omega) (by omega) ?_
    have m2 := hl.1 (a) (by omega) (by omega)
    refine J_if_le C 53 dX6_overlaps_26 (by decide) (by omega) (fun h3 => ?_) (fun h3 => ?_)
    · refine J_iconst C dX6_overlaps_53 ?_
      refine J_iadd C dX6_overlaps_54 ?_
      refine J_istore_n (lv' := [(1, .int (iI ((acc) + (0)))), (0, .ref (jad G 0)), (2, .int (iI (a))), (3, .int (iI (b)))]) C dX6_overlaps_55 (by decide) rfl ?_
      refine J_iinc (lv' := [(3, .int (iI (b + 1))), (1, .int (iI ((acc) + (0)))), (0, .ref (jad G 0)), (2, .int (iI (a)))]) C 3 dX6_overlaps_56 rfl (by decide) rfl ?_
      refine J_goto C 14 dX6_overlaps_59 (by decide) ?_
      have e := isum_step (movl S a) (i := b) (hi := a) (by omega)
      have e2 : movl S a b = 0 := bb_f (fun h => by have h1 := h.1; have h2 := h.2.1; have h3 := h.2.2; omega)
      refine J_lv [2, 1, 3, 0] rfl ?_
      exact ih _ (by omega) (b + 1) (acc + 0) rfl ⟨by omega, by omega, by omega⟩ K
    · refine J_aload_n C 0 dX6_overlaps_29 rfl ?_
      refine g_X6_22 hG C dX6_overlaps_30 ?_
      refine J_iload_n C 3 dX6_overlaps_33 rfl ?_
      refine mald hG C 5 8 (by decide) dX6_overlaps_34 (by omega) (by omega) ?_
      have m4 := hl.1 (b) (by omega) (by omega)
      refine J_if_le C 53 dX6_overlaps_35 (by decide) (by omega) (fun h5 => ?_) (fun h5 => ?_)
      · refine J_iconst C dX6_overlaps_53 ?_
        refine J_iadd C dX6_overlaps_54 ?_
        refine J_istore_n (lv' := [(1, .int (iI ((acc) + (0)))), (0, .ref (jad G 0)), (2, .int (iI (a))), (3, .int (iI (b)))]) C dX6_overlaps_55 (by decide) rfl ?_
        refine J_iinc (lv' := [(3, .int (iI (b + 1))), (1, .int (iI ((acc) + (0)))), (0, .ref (jad G 0)), (2, .int (iI (a)))]) C 3 dX6_overlaps_56 rfl (by decide) rfl ?_
        refine J_goto C 14 dX6_overlaps_59 (by decide) ?_
        have e := isum_step (movl S a) (i := b) (hi := a) (by omega)
        have e2 : movl S a b = 0 := bb_f (fun h => by have h1 := h.1; have h2 := h.2.1; have h3 := h.2.2; omega)
        refine J_lv [2, 1, 3, 0] rfl ?_
        exact ih _ (by omega) (b + 1) (acc + 0) rfl ⟨by omega, by omega, by omega⟩ K
      · refine J_aload_n C 0 dX6_overlaps_38 rfl ?_
        refine J_iload_n C 2 dX6_overlaps_39 rfl ?_
        refine J_iload_n C 3 dX6_overlaps_40 rfl ?_
        refine J_callV (k := 0) (rest := [.int (iI (acc))]) C (m_apart hG S (a) (b) hk hl (by omega) (by omega) (by omega) (by omega)) kc_X6_apart kl_X6_168 (by rw [hG.2]; decide) (by rw [hG.1]; rfl) rfl dX6_overlaps_41 rfl rfl (by decide) (Nat.le_of_ble_eq_true rfl) (J_ki (fun v6 S6 h6 => ?_))
        obtain ⟨rfl, rfl⟩ := h6
        have q25 := pgap_in (S 6) (men S) (a) (b)
        refine J_bipush C dX6_overlaps_44 (by decide) ?_
        refine J_icmp_ne C 53 dX6_overlaps_46 (by decide) (by omega) (by omega) (fun h7 => ?_) (fun h7 => ?_)
        · refine J_iconst C dX6_overlaps_53 ?_
          refine J_iadd C dX6_overlaps_54 ?_
          refine J_istore_n (lv' := [(1, .int (iI ((acc) + (0)))), (0, .ref (jad G 0)), (2, .int (iI (a))), (3, .int (iI (b)))]) C dX6_overlaps_55 (by decide) rfl ?_
          refine J_iinc (lv' := [(3, .int (iI (b + 1))), (1, .int (iI ((acc) + (0)))), (0, .ref (jad G 0)), (2, .int (iI (a)))]) C 3 dX6_overlaps_56 rfl (by decide) rfl ?_
          refine J_goto C 14 dX6_overlaps_59 (by decide) ?_
          have e := isum_step (movl S a) (i := b) (hi := a) (by omega)
          have e2 : movl S a b = 0 := bb_f (fun h => by have h1 := h.1; have h2 := h.2.1; have h3 := h.2.2; omega)
          refine J_lv [2, 1, 3, 0] rfl ?_
          exact ih _ (by omega) (b + 1) (acc + 0) rfl ⟨by omega, by omega, by omega⟩ K
        · refine J_iconst C dX6_overlaps_49 ?_
          refine J_goto C 54 dX6_overlaps_50 (by decide) ?_
          refine J_iadd C dX6_overlaps_54 ?_
          refine J_istore_n (lv' := [(1, .int (iI ((acc) + (1)))), (0, .ref (jad G 0)), (2, .int (iI (a))), (3, .int (iI (b)))]) C dX6_overlaps_55 (by decide) rfl ?_
          refine J_iinc (lv' := [(3, .int (iI (b + 1))), (1, .int (iI ((acc) + (1)))), (0, .ref (jad G 0)), (2, .int (iI (a)))]) C 3 dX6_overlaps_56 rfl (by decide) rfl ?_
          refine J_goto C 14 dX6_overlaps_59 (by decide) ?_
          have e := isum_step (movl S a) (i := b) (hi := a) (by omega)
          have e2 : movl S a b = 1 := bb_t ⟨by omega, by omega, by omega⟩
          refine J_lv [2, 1, 3, 0] rfl ?_
          exact ih _ (by omega) (b + 1) (acc + 1) rfl ⟨by omega, by omega, by omega⟩ K
theorem lm_ov1 {E : jEnv} {G : jG} (hG : mG G) (C : jX E G cX6_overlaps 4 RX6 4 90) (S : jMem) (hk : mOK S) (hl : mlOK S) (R : jR E G (some .int) (jPi (fun v S' => movs S = v ∧ S = S'))) : ∀ (mm : Nat) (a acc : Int), mm = (S 0 1 - a).toNat → (0 ≤ a ∧ a ≤ S 0 1 ∧ acc + isum (fun a => isum (movl S a) 0 (a - 0).toNat) a (S 0 1 - a).toNat = movs S) → J E G 4 [(0, .ref (jad G 0)), (1, .int (iI (acc))), (2, .int (iI (a)))] [] S := by
  intro mm
  induction mm using Nat.strongRecOn with | ind mm ih => ?_
  intro a acc hm hi
  have hn := hk.1
  refine J_iload_n C 2 dX6_overlaps_4 rfl ?_
  refine J_aload_n C 0 dX6_overlaps_5 rfl ?_
  refine g_X6_81 hG C dX6_overlaps_6 ?_
  refine J_icmp_ge C 68 dX6_overlaps_9 (by decide) (by omega) (by omega) (fun h1 => ?_) (fun h1 => ?_)
  · refine J_iload_n C 1 dX6_overlaps_68 rfl ?_
    exact J_iret R C dX6_overlaps_69 (jPi.mk ⟨by have e := isum_end (fun a => isum (movl S a) 0 (a - 0).toNat) (i := a) (hi := S 0 1) (by omega); omega, rfl⟩)
  · refine J_iconst C dX6_overlaps_12 ?_
    refine J_istore_n (lv' := [(3, .int (iI (0))), (0, .ref (jad G 0)), (1, .int (iI (acc))), (2, .int (iI (a)))]) C dX6_overlaps_13 (by decide) rfl ?_
    have e := isum_step (fun a => isum (movl S a) 0 (a - 0).toNat) (i := a) (hi := S 0 1) (by omega)
    try dsimp only at e
    refine J_lv [1, 2, 3, 0] rfl ?_
    refine lm_ov2 hG C S hk hl a (acc + isum (movl S a) 0 (a - 0).toNat) (by omega) _ 0 acc rfl ⟨by omega, by omega, rfl⟩ ?_
    refine J_iinc (lv' := [(2, .int (iI (a + 1))), (0, .ref (jad G 0)), (1, .int (iI (acc + isum (movl S a) 0 (a - 0).toNat)))]) C 2 dX6_overlaps_62 rfl (by decide) rfl ?_
    refine J_goto C 4 dX6_overlaps_65 (by decide) ?_
    refine J_lv [1, 2, 0] rfl ?_
    exact ih _ (by omega) (a + 1) _ rfl ⟨by omega, by omega, by omega⟩
theorem m_overlaps {G : jG} (hG : mG G) (S : jMem) (hk : mOK S) (hl : mlOK S) : jM G yX6_overlaps cX6_overlaps 4 (some .int) 4 90 [.ref (jad G 0)] S (jPi (fun v S' => movs S = v ∧ S = S')) := by
  refine jM.of (by decide) (Nat.le_of_ble_eq_true rfl) (fun E C R => ?_)
  show J E G 0 [(0, .ref (jad G 0))] [] _
  have hn := hk.1
  refine J_iconst C dX6_overlaps_0 ?_
  refine J_istore_n (lv' := [(1, .int (iI (0))), (0, .ref (jad G 0))]) C dX6_overlaps_1 (by decide) rfl ?_
  refine J_iconst C dX6_overlaps_2 ?_
  refine J_istore_n (lv' := [(2, .int (iI (0))), (1, .int (iI (0))), (0, .ref (jad G 0))]) C dX6_overlaps_3 (by decide) rfl ?_
  refine J_lv [2, 1, 0] rfl ?_
  exact lm_ov1 hG C S hk hl R _ 0 0 rfl ⟨by omega, by omega, by rw [Int.zero_add]; rfl⟩
theorem m_relative {G : jG} (hG : mG G) (S : jMem) (a b : Int) (hk : mOK S) (hl : mlOK S) (ha : inR a) (hb : inR b) : jM G yX6_relative cX6_relative 3 (some .int) 4 90 [.ref (jad G 0), .int (iI (a)), .int (iI (b))] S (jPi (fun v S' => (if (0 ≤ a ∧ a < S 0 1) ∧ (0 ≤ b ∧ b < S 0 1) ∧ ¬ a = b then (if S 5 a = 0 ∨ S 5 b = 0 then -2 else pgap (S 6) (men S) a b) else -1) = v ∧ S = S')) := by
  refine jM.of (by decide) (Nat.le_of_ble_eq_true rfl) (fun E C R => ?_)
  show J E G 0 [(0, .ref (jad G 0)), (1, .int (iI (a))), (2, .int (iI (b)))] [] _
  have hn := hk.1
  refine J_aload_n C 0 dX6_relative_0 rfl ?_
  refine J_iload_n C 1 dX6_relative_1 rfl ?_
  refine J_callV (k := 0) (rest := []) C (m_isBox hG S (a) (by omega) (by omega)) kc_X6_isBox kl_X6_151 (by rw [hG.2]; decide) (by rw [hG.1]; rfl) rfl dX6_relative_2 rfl rfl (by decide) (Nat.le_of_ble_eq_true rfl) (J_ki (fun v1 S1 h1 => ?_))
  obtain ⟨rfl, rfl⟩ := h1
  refine J_if_eq_b C 21 dX6_relative_5 (by decide) (fun h2 => ?_) (fun h2 => ?_)
  · refine J_iconst C dX6_relative_21 ?_
    exact J_iret R C dX6_relative_22 (jPi.mk ⟨by (repeat first | rw [if_pos (by omega)] | rw [if_neg (by omega)]); try omega, rfl⟩)
  · refine J_aload_n C 0 dX6_relative_8 rfl ?_
    refine J_iload_n C 2 dX6_relative_9 rfl ?_
    refine J_callV (k := 0) (rest := []) C (m_isBox hG S (b) (by omega) (by omega)) kc_X6_isBox kl_X6_151 (by rw [hG.2]; decide) (by rw [hG.1]; rfl) rfl dX6_relative_10 rfl rfl (by decide) (Nat.le_of_ble_eq_true rfl) (J_ki (fun v3 S3 h3 => ?_))
    obtain ⟨rfl, rfl⟩ := h3
    refine J_if_eq_b C 21 dX6_relative_13 (by decide) (fun h4 => ?_) (fun h4 => ?_)
    · refine J_iconst C dX6_relative_21 ?_
      exact J_iret R C dX6_relative_22 (jPi.mk ⟨by (repeat first | rw [if_pos (by omega)] | rw [if_neg (by omega)]); try omega, rfl⟩)
    · refine J_iload_n C 1 dX6_relative_16 rfl ?_
      refine J_iload_n C 2 dX6_relative_17 rfl ?_
      refine J_icmp_ne C 23 dX6_relative_18 (by decide) (by omega) (by omega) (fun h5 => ?_) (fun h5 => ?_)
      · refine J_aload_n C 0 dX6_relative_23 rfl ?_
        refine g_X6_22 hG C dX6_relative_24 ?_
        refine J_iload_n C 1 dX6_relative_27 rfl ?_
        refine mald hG C 5 8 (by decide) dX6_relative_28 (by omega) (by omega) ?_
        have m6 := hl.1 (a) (by omega) (by omega)
        refine J_if_eq C 41 dX6_relative_29 (by decide) (by omega) (fun h7 => ?_) (fun h7 => ?_)
        · refine J_bipush C dX6_relative_41 (by decide) ?_
          refine J_goto C 52 dX6_relative_43 (by decide) ?_
          exact J_iret R C dX6_relative_52 (jPi.mk ⟨by (repeat first | rw [if_pos (by omega)] | rw [if_neg (by omega)]); try omega, rfl⟩)
        · refine J_aload_n C 0 dX6_relative_32 rfl ?_
          refine g_X6_22 hG C dX6_relative_33 ?_
          refine J_iload_n C 2 dX6_relative_36 rfl ?_
          refine mald hG C 5 8 (by decide) dX6_relative_37 (by omega) (by omega) ?_
          have m8 := hl.1 (b) (by omega) (by omega)
          refine J_if_ne C 46 dX6_relative_38 (by decide) (by omega) (fun h9 => ?_) (fun h9 => ?_)
          · refine J_aload_n C 0 dX6_relative_46 rfl ?_
            refine J_iload_n C 1 dX6_relative_47 rfl ?_
            refine J_iload_n C 2 dX6_relative_48 rfl ?_
            refine J_callV (k := 0) (rest := []) C (m_apart hG S (a) (b) hk hl (by omega) (by omega) (by omega) (by omega)) kc_X6_apart kl_X6_168 (by rw [hG.2]; decide) (by rw [hG.1]; rfl) rfl dX6_relative_49 rfl rfl (by decide) (Nat.le_of_ble_eq_true rfl) (J_ki (fun v10 S10 h10 => ?_))
            obtain ⟨rfl, rfl⟩ := h10
            have q26 := pgap_in (S 6) (men S) (a) (b)
            exact J_iret R C dX6_relative_52 (jPi.mk ⟨by (repeat first | rw [if_pos (by omega)] | rw [if_neg (by omega)]); try omega, rfl⟩)
          · refine J_bipush C dX6_relative_41 (by decide) ?_
            refine J_goto C 52 dX6_relative_43 (by decide) ?_
            exact J_iret R C dX6_relative_52 (jPi.mk ⟨by (repeat first | rw [if_pos (by omega)] | rw [if_neg (by omega)]); try omega, rfl⟩)
      · refine J_iconst C dX6_relative_21 ?_
        exact J_iret R C dX6_relative_22 (jPi.mk ⟨by (repeat first | rw [if_pos (by omega)] | rw [if_neg (by omega)]); try omega, rfl⟩)
theorem m_place {G : jG} (hG : mG G) (S : jMem) (b w : Int) (hk : mOK S) (hl : mlOK S) (hb : inR b) (hw : inR w) : jM G yX6_place cX6_place 3 (some .int) 3 67 [.ref (jad G 0), .int (iI (b)), .int (iI (w))] S (jPi (fun v S' => (if (0 ≤ b ∧ b < S 0 1) ∧ (0 ≤ w ∧ w ≤ 6) then (if S 5 b = 0 then -9 else if w < 3 then S 6 (b * 3 + w) else if w = 3 then S 5 b - 1 else men S (b * 3 + (w - 4)) - S 6 (b * 3 + (w - 4))) else -1) = v ∧ S = S')) := by
  refine jM.of (by decide) (Nat.le_of_ble_eq_true rfl) (fun E C R => ?_)
  show J E G 0 [(0, .ref (jad G 0)), (1, .int (iI (b))), (2, .int (iI (w)))] [] _
  have hn := hk.1
  refine J_aload_n C 0 dX6_place_0 rfl ?_
  refine J_iload_n C 1 dX6_place_1 rfl ?_
  refine J_callV (k := 0) (rest := []) C (m_isBox hG S (b) (by omega) (by omega)) kc_X6_isBox kl_X6_151 (by rw [hG.2]; decide) (by rw [hG.1]; rfl) rfl dX6_place_2 rfl rfl (by decide) (Nat.le_of_ble_eq_true rfl) (J_ki (fun v1 S1 h1 => ?_))
  obtain ⟨rfl, rfl⟩ := h1
  refine J_if_eq_b C 18 dX6_place_5 (by decide) (fun h2 => ?_) (fun h2 => ?_)
  · refine J_iconst C dX6_place_18 ?_
    exact J_iret R C dX6_place_19 (jPi.mk ⟨by (repeat first | rw [if_pos (by omega)] | rw [if_neg (by omega)]), rfl⟩)
  · refine J_iload_n C 2 dX6_place_8 rfl ?_
    refine J_if_lt C 18 dX6_place_9 (by decide) (by omega) (fun h3 => ?_) (fun h3 => ?_)
    · refine J_iconst C dX6_place_18 ?_
      exact J_iret R C dX6_place_19 (jPi.mk ⟨by (repeat first | rw [if_pos (by omega)] | rw [if_neg (by omega)]), rfl⟩)
    · refine J_iload_n C 2 dX6_place_12 rfl ?_
      refine J_bipush C dX6_place_13 (by decide) ?_
      refine J_icmp_le C 20 dX6_place_15 (by decide) (by omega) (by omega) (fun h4 => ?_) (fun h4 => ?_)
      · refine J_aload_n C 0 dX6_place_20 rfl ?_
        refine g_X6_22 hG C dX6_place_21 ?_
        refine J_iload_n C 1 dX6_place_24 rfl ?_
        refine mald hG C 5 8 (by decide) dX6_place_25 (by omega) (by omega) ?_
        have m5 := hl.1 (b) (by omega) (by omega)
        refine J_if_ne C 32 dX6_place_26 (by decide) (by omega) (fun h6 => ?_) (fun h6 => ?_)
        · refine J_iload_n C 2 dX6_place_32 rfl ?_
          refine J_iconst C dX6_place_33 ?_
          refine J_icmp_ge C 46 dX6_place_34 (by decide) (by omega) (by omega) (fun h7 => ?_) (fun h7 => ?_)
          · refine J_iload_n C 2 dX6_place_46 rfl ?_
            refine J_iconst C dX6_place_47 ?_
            refine J_icmp_ne C 62 dX6_place_48 (by decide) (by omega) (by omega) (fun h8 => ?_) (fun h8 => ?_)
            · refine J_aload_n C 0 dX6_place_62 rfl ?_
              refine J_iload_n C 1 dX6_place_63 rfl ?_
              refine J_iload_n C 2 dX6_place_64 rfl ?_
              refine J_iconst C dX6_place_65 ?_
              refine J_isub C dX6_place_66 ?_
              refine J_callV (k := 0) (rest := []) C (m_end hG S (b) ((w) - (4)) (by omega) (by omega) (by omega)) kc_X6_end kl_X6_165 (by rw [hG.2]; decide) (by rw [hG.1]; rfl) rfl dX6_place_67 rfl rfl (by decide) (Nat.le_of_ble_eq_true rfl) (J_ki (fun v9 S9 h9 => ?_))
              obtain ⟨rfl, rfl⟩ := h9
              have q27 := men_in hk hl (b := b) (x := (w) - (4)) (by omega) (by omega)
              refine J_aload_n C 0 dX6_place_70 rfl ?_
              refine J_iload_n C 1 dX6_place_71 rfl ?_
              refine J_iload_n C 2 dX6_place_72 rfl ?_
              refine J_iconst C dX6_place_73 ?_
              refine J_isub C dX6_place_74 ?_
              refine J_callV (k := 0) (rest := [.int (iI (men S (b * 3 + ((w) - (4)))))]) C (m_begin hG S (b) ((w) - (4)) (by omega) (by omega)) kc_X6_begin kl_X6_162 (by rw [hG.2]; decide) (by rw [hG.1]; rfl) rfl dX6_place_75 rfl rfl (by decide) (Nat.le_of_ble_eq_true rfl) (J_ki (fun v10 S10 h10 => ?_))
              obtain ⟨rfl, rfl⟩ := h10
              have q28 := hl.2.1 (b * 3 + ((w) - (4))) (by omega) (by omega)
              refine J_isub C dX6_place_78 ?_
              exact J_iret R C dX6_place_79 (jPi.mk ⟨by (repeat first | rw [if_pos (by omega)] | rw [if_neg (by omega)]), rfl⟩)
            · refine J_aload_n C 0 dX6_place_51 rfl ?_
              refine g_X6_22 hG C dX6_place_52 ?_
              refine J_iload_n C 1 dX6_place_55 rfl ?_
              refine mald hG C 5 8 (by decide) dX6_place_56 (by omega) (by omega) ?_
              have m11 := hl.1 (b) (by omega) (by omega)
              refine J_iconst C dX6_place_57 ?_
              refine J_isub C dX6_place_58 ?_
              refine J_goto C 79 dX6_place_59 (by decide) ?_
              exact J_iret R C dX6_place_79 (jPi.mk ⟨by (repeat first | rw [if_pos (by omega)] | rw [if_neg (by omega)]), rfl⟩)
          · refine J_aload_n C 0 dX6_place_37 rfl ?_
            refine J_iload_n C 1 dX6_place_38 rfl ?_
            refine J_iload_n C 2 dX6_place_39 rfl ?_
            refine J_callV (k := 0) (rest := []) C (m_begin hG S (b) (w) (by omega) (by omega)) kc_X6_begin kl_X6_162 (by rw [hG.2]; decide) (by rw [hG.1]; rfl) rfl dX6_place_40 rfl rfl (by decide) (Nat.le_of_ble_eq_true rfl) (J_ki (fun v12 S12 h12 => ?_))
            obtain ⟨rfl, rfl⟩ := h12
            have q29 := hl.2.1 (b * 3 + w) (by omega) (by omega)
            refine J_goto C 79 dX6_place_43 (by decide) ?_
            exact J_iret R C dX6_place_79 (jPi.mk ⟨by (repeat first | rw [if_pos (by omega)] | rw [if_neg (by omega)]), rfl⟩)
        · refine J_bipush C dX6_place_29 (by decide) ?_
          exact J_iret R C dX6_place_31 (jPi.mk ⟨by (repeat first | rw [if_pos (by omega)] | rw [if_neg (by omega)]), rfl⟩)
      · refine J_iconst C dX6_place_18 ?_
        exact J_iret R C dX6_place_19 (jPi.mk ⟨by (repeat first | rw [if_pos (by omega)] | rw [if_neg (by omega)]), rfl⟩)
theorem m_lift {G : jG} (hG : mG G) (S : jMem) (b : Int) (hk : mOK S) (hl : mlOK S) (hb : inR b) : jM G yX6_lift cX6_lift 2 (some .int) 1 21 [.ref (jad G 0), .int (iI (b))] S (jPi (fun v S' => if 0 ≤ b ∧ b < S 0 1 then (if S 5 b = 0 then v = -2 ∧ S' = S else v = 0 ∧ S' = up2 S 5 b 0) else v = -1 ∧ S' = S)) := by
  refine jM.of (by decide) (Nat.le_of_ble_eq_true rfl) (fun E C R => ?_)
  show J E G 0 [(0, .ref (jad G 0)), (1, .int (iI (b)))] [] _
  have hn := hk.1
  refine J_aload_n C 0 dX6_lift_0 rfl ?_
  refine J_iload_n C 1 dX6_lift_1 rfl ?_
  refine J_callV (k := 0) (rest := []) C (m_isBox hG S (b) (by omega) (by omega)) kc_X6_isBox kl_X6_151 (by rw [hG.2]; decide) (by rw [hG.1]; rfl) rfl dX6_lift_2 rfl rfl (by decide) (Nat.le_of_ble_eq_true rfl) (J_ki (fun v1 S1 h1 => ?_))
  obtain ⟨rfl, rfl⟩ := h1
  refine J_if_ne_b C 10 dX6_lift_5 (by decide) (fun h2 => ?_) (fun h2 => ?_)
  · refine J_aload_n C 0 dX6_lift_10 rfl ?_
    refine g_X6_22 hG C dX6_lift_11 ?_
    refine J_iload_n C 1 dX6_lift_14 rfl ?_
    refine mald hG C 5 8 (by decide) dX6_lift_15 (by omega) (by omega) ?_
    have m3 := hl.1 (b) (by omega) (by omega)
    refine J_if_ne C 22 dX6_lift_16 (by decide) (by omega) (fun h4 => ?_) (fun h4 => ?_)
    · refine J_aload_n C 0 dX6_lift_22 rfl ?_
      refine g_X6_22 hG C dX6_lift_23 ?_
      refine J_iload_n C 1 dX6_lift_26 rfl ?_
      refine J_iconst C dX6_lift_27 ?_
      refine mast hG C 5 8 (by decide) dX6_lift_28 (by omega) (by omega) ?_
      refine J_iconst C dX6_lift_29 ?_
      exact J_iret R C dX6_lift_30 (jPi.mk (by rw [if_pos (by omega), if_neg (by omega)]; exact ⟨rfl, rfl⟩))
    · refine J_bipush C dX6_lift_19 (by decide) ?_
      exact J_iret R C dX6_lift_21 (jPi.mk (by rw [if_pos (by omega), if_pos (by omega)]; exact ⟨rfl, rfl⟩))
  · refine J_iconst C dX6_lift_8 ?_
    exact J_iret R C dX6_lift_9 (jPi.mk (by rw [if_neg (by omega)]; exact ⟨rfl, rfl⟩))
theorem lm_sup {E : jEnv} {G : jG} (hG : mG G) (C : jX E G cX6_support 4 RX6 4 92) (S : jMem) (b : Int) (hk : mOK S) (hl : mlOK S) (hb : 0 ≤ b ∧ b < S 0 1) (hd : ¬ S 5 b = 0) (hz : ¬ S 6 (b * 3 + 2) = 0) (R : jR E G (some .int) (jPi (fun v S' => (if 0 ≤ b ∧ b < S 0 1 then (if S 5 b = 0 then -2 else if S 6 (b * 3 + 2) = 0 then pcom (S 6) (men S) b b 0 * pcom (S 6) (men S) b b 1 else isum (mheld S b) 0 (S 0 1 - 0).toNat) else -1) = v ∧ S = S'))) : ∀ (mm : Nat) (i acc : Int), mm = (S 0 1 - i).toNat → (0 ≤ i ∧ i ≤ S 0 1 ∧ acc + isum (mheld S b) i (S 0 1 - i).toNat = isum (mheld S b) 0 (S 0 1 - 0).toNat) → J E G 51 [(0, .ref (jad G 0)), (1, .int (iI (b))), (2, .int (iI (acc))), (3, .int (iI (i)))] [] S := by
  intro mm
  induction mm using Nat.strongRecOn with | ind mm ih => ?_
  intro i acc hm hi
  have hn := hk.1
  have h5 := hl.1 b (by omega) (by omega)
  refine J_iload_n C 3 dX6_support_51 rfl ?_
  refine J_aload_n C 0 dX6_support_52 rfl ?_
  refine g_X6_81 hG C dX6_support_53 ?_
  refine J_icmp_ge C 112 dX6_support_56 (by decide) (by omega) (by omega) (fun h1 => ?_) (fun h1 => ?_)
  · refine J_iload_n C 2 dX6_support_112 rfl ?_
    exact J_iret R C dX6_support_113 (jPi.mk ⟨by rw [if_pos (by omega), if_neg (by omega), if_neg (by omega)]; have e := isum_end (mheld S b) (i := i) (hi := S 0 1) (by omega); omega, rfl⟩)
  · refine J_iload_n C 3 dX6_support_59 rfl ?_
    refine J_iload_n C 1 dX6_support_60 rfl ?_
    refine J_icmp_eq C 106 dX6_support_61 (by decide) (by omega) (by omega) (fun h2 => ?_) (fun h2 => ?_)
    · refine J_iinc (lv' := [(3, .int (iI (i + 1))), (0, .ref (jad G 0)), (1, .int (iI (b))), (2, .int (iI (acc)))]) C 3 dX6_support_106 rfl (by decide) rfl ?_
      refine J_goto C 51 dX6_support_109 (by decide) ?_
      have e := isum_step (mheld S b) (i := i) (hi := S 0 1) (by omega)
      have e2 : mheld S b i = 0 := bb_mul_f (fun h => by have h1 := h.1; have h2 := h.2.1; have h3 := h.2.2; omega) _
      refine J_lv [1, 2, 3, 0] rfl ?_
      exact ih _ (by omega) (i + 1) _ rfl ⟨by omega, by omega, by omega⟩
    · refine J_aload_n C 0 dX6_support_64 rfl ?_
      refine g_X6_22 hG C dX6_support_65 ?_
      refine J_iload_n C 3 dX6_support_68 rfl ?_
      refine mald hG C 5 8 (by decide) dX6_support_69 (by omega) (by omega) ?_
      have m3 := hl.1 (i) (by omega) (by omega)
      refine J_if_le C 106 dX6_support_70 (by decide) (by omega) (fun h4 => ?_) (fun h4 => ?_)
      · refine J_iinc (lv' := [(3, .int (iI (i + 1))), (0, .ref (jad G 0)), (1, .int (iI (b))), (2, .int (iI (acc)))]) C 3 dX6_support_106 rfl (by decide) rfl ?_
        refine J_goto C 51 dX6_support_109 (by decide) ?_
        have e := isum_step (mheld S b) (i := i) (hi := S 0 1) (by omega)
        have e2 : mheld S b i = 0 := bb_mul_f (fun h => by have h1 := h.1; have h2 := h.2.1; have h3 := h.2.2; omega) _
        refine J_lv [1, 2, 3, 0] rfl ?_
        exact ih _ (by omega) (i + 1) _ rfl ⟨by omega, by omega, by omega⟩
      · refine J_aload_n C 0 dX6_support_73 rfl ?_
        refine J_iload_n C 3 dX6_support_74 rfl ?_
        refine J_iconst C dX6_support_75 ?_
        refine J_callV (k := 0) (rest := []) C (m_end hG S (i) (2) (by omega) (by omega) (by omega)) kc_X6_end kl_X6_165 (by rw [hG.2]; decide) (by rw [hG.1]; rfl) rfl dX6_support_76 rfl rfl (by decide) (Nat.le_of_ble_eq_true rfl) (J_ki (fun v5 S5 h5 => ?_))
        obtain ⟨rfl, rfl⟩ := h5
        have q30 := men_in hk hl (b := i) (x := 2) (by omega) (by omega)
        refine J_aload_n C 0 dX6_support_79 rfl ?_
        refine J_iload_n C 1 dX6_support_80 rfl ?_
        refine J_iconst C dX6_support_81 ?_
        refine J_callV (k := 0) (rest := [.int (iI (men S (i * 3 + 2)))]) C (m_begin hG S (b) (2) (by omega) (by omega)) kc_X6_begin kl_X6_162 (by rw [hG.2]; decide) (by rw [hG.1]; rfl) rfl dX6_support_82 rfl rfl (by decide) (Nat.le_of_ble_eq_true rfl) (J_ki (fun v6 S6 h6 => ?_))
        obtain ⟨rfl, rfl⟩ := h6
        have q31 := hl.2.1 (b * 3 + 2) (by omega) (by omega)
        refine J_icmp_ne C 106 dX6_support_85 (by decide) (by omega) (by omega) (fun h7 => ?_) (fun h7 => ?_)
        · refine J_iinc (lv' := [(3, .int (iI (i + 1))), (0, .ref (jad G 0)), (1, .int (iI (b))), (2, .int (iI (acc)))]) C 3 dX6_support_106 rfl (by decide) rfl ?_
          refine J_goto C 51 dX6_support_109 (by decide) ?_
          have e := isum_step (mheld S b) (i := i) (hi := S 0 1) (by omega)
          have e2 : mheld S b i = 0 := bb_mul_f (fun h => by have h1 := h.1; have h2 := h.2.1; have h3 := h.2.2; omega) _
          refine J_lv [1, 2, 3, 0] rfl ?_
          exact ih _ (by omega) (i + 1) _ rfl ⟨by omega, by omega, by omega⟩
        · refine J_iload_n C 2 dX6_support_88 rfl ?_
          refine J_aload_n C 0 dX6_support_89 rfl ?_
          refine J_iload_n C 3 dX6_support_90 rfl ?_
          refine J_iload_n C 1 dX6_support_91 rfl ?_
          refine J_iconst C dX6_support_92 ?_
          refine J_callV (k := 0) (rest := [.int (iI (acc))]) C (m_common hG S (i) (b) (0) hk hl (by omega) (by omega) (by omega) (by omega) (by omega)) kc_X6_common kl_X6_171 (by rw [hG.2]; decide) (by rw [hG.1]; rfl) rfl dX6_support_93 rfl rfl (by decide) (Nat.le_of_ble_eq_true rfl) (J_ki (fun v8 S8 h8 => ?_))
          obtain ⟨rfl, rfl⟩ := h8
          refine J_aload_n C 0 dX6_support_96 rfl ?_
          refine J_iload_n C 3 dX6_support_97 rfl ?_
          refine J_iload_n C 1 dX6_support_98 rfl ?_
          refine J_iconst C dX6_support_99 ?_
          refine J_callV (k := 0) (rest := [.int (iI (pcom (S 6) (men S) (i) (b) (0))), .int (iI (acc))]) C (m_common hG S (i) (b) (1) hk hl (by omega) (by omega) (by omega) (by omega) (by omega)) kc_X6_common kl_X6_171 (by rw [hG.2]; decide) (by rw [hG.1]; rfl) rfl dX6_support_100 rfl rfl (by decide) (Nat.le_of_ble_eq_true rfl) (J_ki (fun v9 S9 h9 => ?_))
          obtain ⟨rfl, rfl⟩ := h9
          refine J_imul C dX6_support_103 ?_
          refine J_iadd C dX6_support_104 ?_
          refine J_istore_n (lv' := [(2, .int (iI ((acc) + ((pcom (S 6) (men S) (i) (b) (0)) * (pcom (S 6) (men S) (i) (b) (1)))))), (0, .ref (jad G 0)), (1, .int (iI (b))), (3, .int (iI (i)))]) C dX6_support_105 (by decide) rfl ?_
          refine J_iinc (lv' := [(3, .int (iI (i + 1))), (2, .int (iI ((acc) + ((pcom (S 6) (men S) (i) (b) (0)) * (pcom (S 6) (men S) (i) (b) (1)))))), (0, .ref (jad G 0)), (1, .int (iI (b)))]) C 3 dX6_support_106 rfl (by decide) rfl ?_
          refine J_goto C 51 dX6_support_109 (by decide) ?_
          have e := isum_step (mheld S b) (i := i) (hi := S 0 1) (by omega)
          have e2 : mheld S b i = pcom (S 6) (men S) i b 0 * pcom (S 6) (men S) i b 1 := bb_mul_t ⟨by omega, by omega, by omega⟩ _
          refine J_lv [2, 3, 1, 0] rfl ?_
          exact ih _ (by omega) (i + 1) _ rfl ⟨by omega, by omega, by omega⟩
theorem m_support {G : jG} (hG : mG G) (S : jMem) (b : Int) (hk : mOK S) (hl : mlOK S) (hb : inR b) : jM G yX6_support cX6_support 4 (some .int) 4 92 [.ref (jad G 0), .int (iI (b))] S (jPi (fun v S' => (if 0 ≤ b ∧ b < S 0 1 then (if S 5 b = 0 then -2 else if S 6 (b * 3 + 2) = 0 then pcom (S 6) (men S) b b 0 * pcom (S 6) (men S) b b 1 else isum (mheld S b) 0 (S 0 1 - 0).toNat) else -1) = v ∧ S = S')) := by
  refine jM.of (by decide) (Nat.le_of_ble_eq_true rfl) (fun E C R => ?_)
  show J E G 0 [(0, .ref (jad G 0)), (1, .int (iI (b)))] [] _
  have hn := hk.1
  refine J_aload_n C 0 dX6_support_0 rfl ?_
  refine J_iload_n C 1 dX6_support_1 rfl ?_
  refine J_callV (k := 0) (rest := []) C (m_isBox hG S (b) (by omega) (by omega)) kc_X6_isBox kl_X6_151 (by rw [hG.2]; decide) (by rw [hG.1]; rfl) rfl dX6_support_2 rfl rfl (by decide) (Nat.le_of_ble_eq_true rfl) (J_ki (fun v1 S1 h1 => ?_))
  obtain ⟨rfl, rfl⟩ := h1
  refine J_if_ne_b C 10 dX6_support_5 (by decide) (fun h2 => ?_) (fun h2 => ?_)
  · refine J_aload_n C 0 dX6_support_10 rfl ?_
    refine g_X6_22 hG C dX6_support_11 ?_
    refine J_iload_n C 1 dX6_support_14 rfl ?_
    refine mald hG C 5 8 (by decide) dX6_support_15 (by omega) (by omega) ?_
    have m3 := hl.1 (b) (by omega) (by omega)
    refine J_if_ne C 22 dX6_support_16 (by decide) (by omega) (fun h4 => ?_) (fun h4 => ?_)
    · refine J_aload_n C 0 dX6_support_22 rfl ?_
      refine J_iload_n C 1 dX6_support_23 rfl ?_
      refine J_iconst C dX6_support_24 ?_
      refine J_callV (k := 0) (rest := []) C (m_begin hG S (b) (2) (by omega) (by omega)) kc_X6_begin kl_X6_162 (by rw [hG.2]; decide) (by rw [hG.1]; rfl) rfl dX6_support_25 rfl rfl (by decide) (Nat.le_of_ble_eq_true rfl) (J_ki (fun v5 S5 h5 => ?_))
      obtain ⟨rfl, rfl⟩ := h5
      have q32 := hl.2.1 (b * 3 + 2) (by omega) (by omega)
      refine J_if_ne C 47 dX6_support_28 (by decide) (by omega) (fun h6 => ?_) (fun h6 => ?_)
      · refine J_iconst C dX6_support_47 ?_
        refine J_istore_n (lv' := [(2, .int (iI (0))), (0, .ref (jad G 0)), (1, .int (iI (b)))]) C dX6_support_48 (by decide) rfl ?_
        refine J_iconst C dX6_support_49 ?_
        refine J_istore_n (lv' := [(3, .int (iI (0))), (2, .int (iI (0))), (0, .ref (jad G 0)), (1, .int (iI (b)))]) C dX6_support_50 (by decide) rfl ?_
        refine J_lv [2, 3, 1, 0] rfl ?_
        exact lm_sup hG C S b hk hl (by omega) (by assumption) (by assumption) R _ 0 0 rfl ⟨by omega, by omega, by rw [Int.zero_add]⟩
      · refine J_aload_n C 0 dX6_support_31 rfl ?_
        refine J_iload_n C 1 dX6_support_32 rfl ?_
        refine J_iload_n C 1 dX6_support_33 rfl ?_
        refine J_iconst C dX6_support_34 ?_
        refine J_callV (k := 0) (rest := []) C (m_common hG S (b) (b) (0) hk hl (by omega) (by omega) (by omega) (by omega) (by omega)) kc_X6_common kl_X6_171 (by rw [hG.2]; decide) (by rw [hG.1]; rfl) rfl dX6_support_35 rfl rfl (by decide) (Nat.le_of_ble_eq_true rfl) (J_ki (fun v7 S7 h7 => ?_))
        obtain ⟨rfl, rfl⟩ := h7
        refine J_aload_n C 0 dX6_support_38 rfl ?_
        refine J_iload_n C 1 dX6_support_39 rfl ?_
        refine J_iload_n C 1 dX6_support_40 rfl ?_
        refine J_iconst C dX6_support_41 ?_
        refine J_callV (k := 0) (rest := [.int (iI (pcom (S 6) (men S) (b) (b) (0)))]) C (m_common hG S (b) (b) (1) hk hl (by omega) (by omega) (by omega) (by omega) (by omega)) kc_X6_common kl_X6_171 (by rw [hG.2]; decide) (by rw [hG.1]; rfl) rfl dX6_support_42 rfl rfl (by decide) (Nat.le_of_ble_eq_true rfl) (J_ki (fun v8 S8 h8 => ?_))
        obtain ⟨rfl, rfl⟩ := h8
        refine J_imul C dX6_support_45 ?_
        exact J_iret R C dX6_support_46 (jPi.mk ⟨by (repeat first | rw [if_pos (by omega)] | rw [if_neg (by omega)]), rfl⟩)
    · refine J_bipush C dX6_support_19 (by decide) ?_
      exact J_iret R C dX6_support_21 (jPi.mk ⟨by (repeat first | rw [if_pos (by omega)] | rw [if_neg (by omega)]), rfl⟩)
  · refine J_iconst C dX6_support_8 ?_
    exact J_iret R C dX6_support_9 (jPi.mk ⟨by (repeat first | rw [if_pos (by omega)] | rw [if_neg (by omega)]), rfl⟩)
