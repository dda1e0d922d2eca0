theorem c_proves {G : jG} (hG : cG G) (S : jMem) (n0 n1 n2 m : Int) (hk : cOK S) (hd : dOK S) (ha : aOK S n0 n1) (f0 : isFn S 0 n0) (f1 : isFn S 1 n1) (f2 : isFn S 2 n2) (hm0 : 0 ≤ m ∧ m ≤ 255) : jM G yX1_proves cX1_proves 3 (some .boolean) 2 49 [.ref (jad G 25), .int (iI (m)), .int (iI (n2))] S (jPi (fun v S' => bb (pprove (S 1 4) (S 2) (S 3) (S 4) n0 n1 n2 m) = v ∧ S = S')) := by
  refine jM.of (by decide) (Nat.le_of_ble_eq_true rfl) (fun E C R => ?_)
  show J E G 0 [(0, .ref (jad G 25)), (1, .int (iI (m))), (2, .int (iI (n2)))] [] _
  have l0 := hk.2.1 0 (by omega) (by omega)
  have l1 := hk.2.1 1 (by omega) (by omega)
  have l2 := hk.2.1 2 (by omega) (by omega)
  have hh := has_in hk.2.1 f0 f1 f2
  have hq := need_in (m := m) hk f0 f1 f2
  refine J_aload_n C 0 dX1_proves_0 rfl ?_
  refine J_iload_n C 1 dX1_proves_1 rfl ?_
  refine J_iload_n C 2 dX1_proves_2 rfl ?_
  refine J_callV (k := 25) (rest := []) C (c_needOf hG S n0 n1 (n2) (m) hk hd ha f0 f1 f2 (by omega)) kc_X1_needOf kl_X1_84 (by rw [hG.2]; decide) (by rw [hG.1]; rfl) rfl dX1_proves_3 rfl rfl (by decide) (Nat.le_of_ble_eq_true rfl) (J_ki (fun v1 S1 h1 => ?_))
  obtain ⟨rfl, rfl⟩ := h1
  refine J_aload_n C 0 dX1_proves_6 rfl ?_
  refine J_iload_n C 2 dX1_proves_7 rfl ?_
  refine J_callV (k := 25) (rest := [.int (iI (pneed (S 1 4) (S 2) (S 3) (S 4) n0 n1 (n2) (m)))]) C (c_binHas hG S (n2) hk (by omega)) kc_X1_binHas kl_X1_76 (by rw [hG.2]; decide) (by rw [hG.1]; rfl) rfl dX1_proves_8 rfl rfl (by decide) (Nat.le_of_ble_eq_true rfl) (J_ki (fun v2 S2 h2 => ?_))
  obtain ⟨rfl, rfl⟩ := h2
  refine J_top (b := phas3 (S 2) n0 n1 n2) (by rw [show (2 : Int) * 21 + n2 = 42 + n2 by omega, ha.1, v2 hd.1.2.2 f2 (by omega)]; rfl) ?_
  refine J_icmp_le C 18 dX1_proves_11 (by decide) (by omega) (by omega) (fun h3 => ?_) (fun h3 => ?_)
  · refine J_iconst C dX1_proves_18 ?_
    exact J_zret R C dX1_proves_19 (by first | exact Or.inl rfl | exact Or.inr rfl | omega) (jPi.mk ⟨by first | exact bb_t (by omega) | exact bb_f (by omega), rfl⟩)
  · refine J_iconst C dX1_proves_14 ?_
    refine J_goto C 19 dX1_proves_15 (by decide) ?_
    exact J_zret R C dX1_proves_19 (by first | exact Or.inl rfl | exact Or.inr rfl | omega) (jPi.mk ⟨by first | exact bb_t (by omega) | exact bb_f (by omega), rfl⟩)
theorem l_reason {E : jEnv} {G : jG} (hG : cG G) (C : jX E G cX1_reason 5 RX1 3 71) (S : jMem) (n0 n1 n2 : Int) (hk : cOK S) (hd : dOK S) (ha : aOK S n0 n1) (f0 : isFn S 0 n0) (f1 : isFn S 1 n1) (f2 : isFn S 2 n2) (R : jR E G (some .int) (jPi (fun v S' => preason (pprove (S 1 4) (S 2) (S 3) (S 4) n0 n1 n2) (S 1 4 - 0).toNat 0 (pall (S 1 4)) = v ∧ S = S'))) : ∀ (mm : Nat) (b left : Int), mm = (S 1 4 - b).toNat → ((0 ≤ b ∧ b ≤ S 1 4) ∧ (0 ≤ left ∧ left ≤ 255) ∧ preason (pprove (S 1 4) (S 2) (S 3) (S 4) n0 n1 n2) (S 1 4 - b).toNat b left = preason (pprove (S 1 4) (S 2) (S 3) (S 4) n0 n1 n2) (S 1 4 - 0).toNat 0 (pall (S 1 4))) → J E G 10 [(0, .ref (jad G 25)), (1, .int (iI (n2))), (2, .int (iI (left))), (3, .int (iI (b)))] [] S := by
  intro mm
  induction mm using Nat.strongRecOn with | ind mm ih => ?_
  intro b left hm hj
  obtain ⟨hb, hl, hj⟩ := hj
  have hn := hk.1
  refine J_iload_n C 3 dX1_reason_10 rfl ?_
  refine J_aload_n C 0 dX1_reason_11 rfl ?_
  refine g_X1_30 hG C dX1_reason_12 ?_
  refine g_X1_54 hG C dX1_reason_15 ?_
  refine J_icmp_ge C 49 dX1_reason_18 (by decide) (by omega) (by omega) (fun h1 => ?_) (fun h1 => ?_)
  · refine J_iload_n C 2 dX1_reason_49 rfl ?_
    exact J_iret R C dX1_reason_50 (jPi.mk ⟨by rw [preason_e (by omega)] at hj; exact hj.symm, rfl⟩)
  · have hp := zpow_in hb.1 (by omega : b < 8)
    have z0 := zandn_nn left (1 * 2 ^ b.toNat)
    have z1 := zandn_le (b := 1 * 2 ^ b.toNat) hl.1
    refine J_iload_n C 2 dX1_reason_21 rfl ?_
    refine J_iconst C dX1_reason_22 ?_
    refine J_iload_n C 3 dX1_reason_23 rfl ?_
    refine J_ishl C dX1_reason_24 (by omega) (by omega) ?_
    refine J_iconst C dX1_reason_25 ?_
    refine J_ixor C (-((1) * 2 ^ (b).toNat) - 1) dX1_reason_26 (iI_not _) ?_
    refine J_iand C (zandn (left) ((1) * 2 ^ (b).toNat)) dX1_reason_27 (iI_zandn (by omega) (by omega) (by omega) (by omega)) ?_
    refine J_istore (lv' := [(4, .int (iI (zandn (left) ((1) * 2 ^ (b).toNat)))), (0, .ref (jad G 25)), (1, .int (iI (n2))), (2, .int (iI (left))), (3, .int (iI (b)))]) C dX1_reason_28 (by decide) rfl ?_
    refine J_aload_n C 1 dX1_reason_30 rfl ?_
    refine J_iload C 0 dX1_reason_31 rfl ?_
    refine J_iload_n C 2 dX1_reason_33 rfl ?_
    refine J_callV (k := 25) (rest := []) C (c_proves hG S n0 n1 (n2) (zandn (left) ((1) * 2 ^ (b).toNat)) hk hd ha f0 f1 f2 (by omega)) kc_X1_proves kl_X1_111 (by rw [hG.2]; decide) (by rw [hG.1]; rfl) rfl dX1_reason_34 rfl rfl (by decide) (Nat.le_of_ble_eq_true rfl) (J_ki (fun v2 S2 h2 => ?_))
    obtain ⟨rfl, rfl⟩ := h2
    refine J_if_eq_b C 43 dX1_reason_37 (by decide) (fun h3 => ?_) (fun h3 => ?_)
    · refine J_iinc (lv' := [(3, .int (iI (b + 1))), (4, .int (iI (zandn (left) ((1) * 2 ^ (b).toNat)))), (0, .ref (jad G 25)), (1, .int (iI (n2))), (2, .int (iI (left)))]) C 4 dX1_reason_43 rfl (by decide) rfl ?_
      refine J_goto C 10 dX1_reason_46 (by decide) ?_
      rw [preason_f (by omega) (by assumption)] at hj
      refine J_lv [2, 3, 4, 0] rfl ?_
      exact ih _ (by omega) (b + 1) _ rfl ⟨by omega, by omega, hj⟩
    · refine J_iload C 0 dX1_reason_40 rfl ?_
      refine J_istore_n (lv' := [(2, .int (iI (zandn (left) ((1) * 2 ^ (b).toNat)))), (4, .int (iI (zandn (left) ((1) * 2 ^ (b).toNat)))), (0, .ref (jad G 25)), (1, .int (iI (n2))), (3, .int (iI (b)))]) C dX1_reason_42 (by decide) rfl ?_
      refine J_iinc (lv' := [(3, .int (iI (b + 1))), (2, .int (iI (zandn (left) ((1) * 2 ^ (b).toNat)))), (4, .int (iI (zandn (left) ((1) * 2 ^ (b).toNat)))), (0, .ref (jad G 25)), (1, .int (iI (n2)))]) C 4 dX1_reason_43 rfl (by decide) rfl ?_
      refine J_goto C 10 dX1_reason_46 (by decide) ?_
      rw [preason_t (by omega) (by assumption)] at hj
      refine J_lv [3, 4, 1, 0] rfl ?_
      exact ih _ (by omega) (b + 1) _ rfl ⟨by omega, by omega, hj⟩
theorem c_reason {G : jG} (hG : cG G) (S : jMem) (n0 n1 n2 : Int) (hk : cOK S) (hd : dOK S) (ha : aOK S n0 n1) (f0 : isFn S 0 n0) (f1 : isFn S 1 n1) (f2 : isFn S 2 n2) : jM G yX1_reason cX1_reason 5 (some .int) 3 71 [.ref (jad G 25), .int (iI (n2))] S (jPi (fun v S' => preason (pprove (S 1 4) (S 2) (S 3) (S 4) n0 n1 n2) (S 1 4 - 0).toNat 0 (pall (S 1 4)) = v ∧ S = S')) := by
  refine jM.of (by decide) (Nat.le_of_ble_eq_true rfl) (fun E C R => ?_)
  show J E G 0 [(0, .ref (jad G 25)), (1, .int (iI (n2)))] [] _
  have hn := hk.1
  refine J_aload_n C 0 dX1_reason_0 rfl ?_
  refine g_X1_30 hG C dX1_reason_1 ?_
  refine J_callV (k := 1) (rest := []) C (c_allBoxes hG S hk.1) kc_X4_allBoxes kl_X1_107 (by rw [hG.2]; decide) (by rw [hG.1]; rfl) rfl dX1_reason_4 rfl rfl (by decide) (Nat.le_of_ble_eq_true rfl) (J_ki (fun v1 S1 h1 => ?_))
  obtain ⟨rfl, rfl⟩ := h1
  refine J_istore_n (lv' := [(2, .int (iI (1 * 2 ^ (S 1 4).toNat - 1))), (0, .ref (jad G 25)), (1, .int (iI (n2)))]) C dX1_reason_7 (by decide) rfl ?_
  refine J_iconst C dX1_reason_8 ?_
  refine J_istore_n (lv' := [(3, .int (iI (0))), (2, .int (iI (1 * 2 ^ (S 1 4).toNat - 1))), (0, .ref (jad G 25)), (1, .int (iI (n2)))]) C dX1_reason_9 (by decide) rfl ?_
  refine J_lv [2, 3, 1, 0] rfl ?_
  exact l_reason hG C S n0 n1 n2 hk hd ha f0 f1 f2 R _ 0 _ rfl ⟨by omega, pall_in hn, rfl⟩
theorem l_gives {E : jEnv} {G : jG} (hG : cG G) (C : jX E G cX1_givesNoLess 9 RX1 0 0) (S : jMem) (a p n : Int) (hk : cOK S) (hd : dOK S) (ha : 0 ≤ a ∧ a < 3) (fp : isFn S a p) (fn : isFn S a n) (R : jR E G (some .boolean) (jPi (fun v S' => bb (pdom S a p n) = v ∧ S = S'))) : ∀ (mm : Nat) (i : Int), mm = (S 29 (S 1 4) - i).toNat → ((0 ≤ i ∧ i ≤ S 29 (S 1 4)) ∧ ∀ j, 0 ≤ j → j < i → pworth (S 2 a) n (S 28 (j * 3 + a)) * pworth (S 2 a) p (S 2 a) ≤ pworth (S 2 a) p (S 28 (j * 3 + a)) * pworth (S 2 a) n (S 2 a)) → J E G 36 [(0, .ref (jad G 25)), (1, .int (iI (a))), (4, .int (iI ((a * 21 + p) * 21))), (5, .int (iI ((a * 21 + n) * 21))), (6, .int (iI (S 2 (a)))), (7, .int (iI (i)))] [] S := by
  intro mm
  induction mm using Nat.strongRecOn with | ind mm ih => ?_
  intro i hm hj
  obtain ⟨hi, hj⟩ := hj
  have hn := hk.1
  have q := first_in hk hd hn.1 (Int.le_refl _)
  have hL := hk.2.1 a (by omega) (by omega)
  refine J_iload C 5 dX1_givesNoLess_36 rfl ?_
  refine J_aload_n C 0 dX1_givesNoLess_38 rfl ?_
  refine g_X1_21 hG C dX1_givesNoLess_39 ?_
  refine J_aload_n C 0 dX1_givesNoLess_42 rfl ?_
  refine g_X1_30 hG C dX1_givesNoLess_43 ?_
  refine g_X1_54 hG C dX1_givesNoLess_46 ?_
  refine cald hG C 29 9 (by decide) dX1_givesNoLess_49 (by omega) (by omega) ?_
  refine J_icmp_ge C 119 dX1_givesNoLess_50 (by decide) (by omega) (by omega) (fun h1 => ?_) (fun h1 => ?_)
  · refine J_iconst C dX1_givesNoLess_119 ?_
    exact J_zret R C dX1_givesNoLess_120 (Or.inr rfl) (jPi.mk ⟨bb_t (fun j h1 h2 => hj j h1 (by omega)), rfl⟩)
  · have r := row_at hk hd (i := i) (a := a) (by omega) (by omega) ha
    have a1 := v_at hd ha fp r
    have a2 := v_at hd ha fn r
    have a3 := v_at hd ha fp (x := S 2 a) (by omega)
    have a4 := v_at hd ha fn (x := S 2 a) (by omega)
    have w1 := pworth_in hL fp r
    have w2 := pworth_in hL fn r
    have b1 := mul_in (A := 40) (B := 40) (x := pworth (S 2 a) p (S 28 (i * 3 + a))) (y := pworth (S 2 a) n (S 2 a)) ⟨w1.1, by omega⟩ ⟨by omega, w2.2.2.2⟩
    have b2 := mul_in (A := 40) (B := 40) (x := pworth (S 2 a) n (S 28 (i * 3 + a))) (y := pworth (S 2 a) p (S 2 a)) ⟨w2.1, by omega⟩ ⟨by omega, w1.2.2.2⟩
    refine J_aload_n C 0 dX1_givesNoLess_53 rfl ?_
    refine g_X1_18 hG C dX1_givesNoLess_54 ?_
    refine J_iload C 5 dX1_givesNoLess_57 rfl ?_
    refine J_iconst C dX1_givesNoLess_59 ?_
    refine J_imul C dX1_givesNoLess_60 ?_
    refine J_iload_n C 1 dX1_givesNoLess_61 rfl ?_
    refine J_iadd C dX1_givesNoLess_62 ?_
    refine cald hG C 28 144 (by decide) dX1_givesNoLess_63 (by omega) (by omega) ?_
    refine J_istore (lv' := [(8, .int (iI (S 28 (((i) * (3)) + (a))))), (0, .ref (jad G 25)), (1, .int (iI (a))), (4, .int (iI ((a * 21 + p) * 21))), (5, .int (iI ((a * 21 + n) * 21))), (6, .int (iI (S 2 (a)))), (7, .int (iI (i)))]) C dX1_givesNoLess_64 (by decide) rfl ?_
    refine J_aload_n C 1 dX1_givesNoLess_66 rfl ?_
    refine g_X1_15 hG C dX1_givesNoLess_67 ?_
    refine J_iload C 3 dX1_givesNoLess_70 rfl ?_
    refine J_iload C 0 dX1_givesNoLess_72 rfl ?_
    refine J_iadd C dX1_givesNoLess_74 ?_
    refine cald hG C 27 1323 (by decide) dX1_givesNoLess_75 (by omega) (by omega) ?_
    refine J_aload_n C 1 dX1_givesNoLess_76 rfl ?_
    refine g_X1_15 hG C dX1_givesNoLess_77 ?_
    refine J_iload C 4 dX1_givesNoLess_80 rfl ?_
    refine J_iload C 5 dX1_givesNoLess_82 rfl ?_
    refine J_iadd C dX1_givesNoLess_84 ?_
    refine cald hG C 27 1323 (by decide) dX1_givesNoLess_85 (by omega) (by omega) ?_
    refine J_imul C dX1_givesNoLess_86 ?_
    refine J_aload_n C 1 dX1_givesNoLess_87 rfl ?_
    refine g_X1_15 hG C dX1_givesNoLess_88 ?_
    refine J_iload C 4 dX1_givesNoLess_91 rfl ?_
    refine J_iload C 0 dX1_givesNoLess_93 rfl ?_
    refine J_iadd C dX1_givesNoLess_95 ?_
    refine cald hG C 27 1323 (by decide) dX1_givesNoLess_96 (by omega) (by omega) ?_
    refine J_aload_n C 1 dX1_givesNoLess_97 rfl ?_
    refine g_X1_15 hG C dX1_givesNoLess_98 ?_
    refine J_iload C 3 dX1_givesNoLess_101 rfl ?_
    refine J_iload C 5 dX1_givesNoLess_103 rfl ?_
    refine J_iadd C dX1_givesNoLess_105 ?_
    refine cald hG C 27 1323 (by decide) dX1_givesNoLess_106 (by omega) (by omega) ?_
    refine J_imul C dX1_givesNoLess_107 ?_
    rw [a1, a2, a3, a4]
    refine J_icmp_ge C 113 dX1_givesNoLess_108 (by decide) (by omega) (by omega) (fun h2 => ?_) (fun h2 => ?_)
    · refine J_iinc (lv' := [(7, .int (iI (i + 1))), (8, .int (iI (S 28 (((i) * (3)) + (a))))), (0, .ref (jad G 25)), (1, .int (iI (a))), (4, .int (iI ((a * 21 + p) * 21))), (5, .int (iI ((a * 21 + n) * 21))), (6, .int (iI (S 2 (a))))]) C 6 dX1_givesNoLess_113 rfl (by decide) rfl ?_
      refine J_goto C 36 dX1_givesNoLess_116 (by decide) ?_
      refine J_lv [2, 3, 4, 5, 6, 0] rfl ?_
      refine ih _ (by omega) (i + 1) rfl ⟨by omega, fun j h1 h2 => ?_⟩
      by_cases e : j = i
      · subst e; assumption
      · exact hj j h1 (by omega)
    · refine J_iconst C dX1_givesNoLess_111 ?_
      exact J_zret R C dX1_givesNoLess_112 (Or.inl rfl) (jPi.mk ⟨bb_f (fun h => by have := h i hi.1 (by omega); omega), rfl⟩)
theorem c_gives {G : jG} (hG : cG G) (S : jMem) (a p n : Int) (hk : cOK S) (hd : dOK S) (ha : 0 ≤ a ∧ a < 3) (fp : isFn S a p) (fn : isFn S a n) : jM G yX1_givesNoLess cX1_givesNoLess 9 (some .boolean) 0 0 [.ref (jad G 25), .int (iI (a)), .int (iI (p)), .int (iI (n))] S (jPi (fun v S' => bb (pdom S a p n) = v ∧ S = S')) := by
  refine jM.of (by decide) (Nat.le_of_ble_eq_true rfl) (fun E C R => ?_)
  show J E G 0 [(0, .ref (jad G 25)), (1, .int (iI (a))), (2, .int (iI (p))), (3, .int (iI (n)))] [] _
  refine J_iload_n C 1 dX1_givesNoLess_0 rfl ?_
  refine J_bipush C dX1_givesNoLess_1 (by decide) ?_
  refine J_imul C dX1_givesNoLess_3 ?_
  refine J_iload_n C 2 dX1_givesNoLess_4 rfl ?_
  refine J_iadd C dX1_givesNoLess_5 ?_
  refine J_bipush C dX1_givesNoLess_6 (by decide) ?_
  refine J_imul C dX1_givesNoLess_8 ?_
  refine J_istore (lv' := [(4, .int (iI ((((a) * (21)) + (p)) * (21)))), (0, .ref (jad G 25)), (1, .int (iI (a))), (2, .int (iI (p))), (3, .int (iI (n)))]) C dX1_givesNoLess_9 (by decide) rfl ?_
  refine J_iload_n C 2 dX1_givesNoLess_11 rfl ?_
  refine J_bipush C dX1_givesNoLess_12 (by decide) ?_
  refine J_imul C dX1_givesNoLess_14 ?_
  refine J_iload_n C 4 dX1_givesNoLess_15 rfl ?_
  refine J_iadd C dX1_givesNoLess_16 ?_
  refine J_bipush C dX1_givesNoLess_17 (by decide) ?_
  refine J_imul C dX1_givesNoLess_19 ?_
  refine J_istore (lv' := [(5, .int (iI ((((a) * (21)) + (n)) * (21)))), (4, .int (iI ((((a) * (21)) + (p)) * (21)))), (0, .ref (jad G 25)), (1, .int (iI (a))), (2, .int (iI (p))), (3, .int (iI (n)))]) C dX1_givesNoLess_20 (by decide) rfl ?_
  refine J_aload_n C 2 dX1_givesNoLess_22 rfl ?_
  refine g_X1_30 hG C dX1_givesNoLess_23 ?_
  refine g_X1_41 hG C dX1_givesNoLess_26 ?_
  refine J_iload_n C 3 dX1_givesNoLess_29 rfl ?_
  refine cald hG C 2 3 (by decide) dX1_givesNoLess_30 (by omega) (by omega) ?_
  have m1 := hk.2.1 (a) (by omega) (by omega)
  refine J_istore (lv' := [(6, .int (iI (S 2 (a)))), (5, .int (iI ((((a) * (21)) + (n)) * (21)))), (4, .int (iI ((((a) * (21)) + (p)) * (21)))), (0, .ref (jad G 25)), (1, .int (iI (a))), (2, .int (iI (p))), (3, .int (iI (n)))]) C dX1_givesNoLess_31 (by decide) rfl ?_
  refine J_iconst C dX1_givesNoLess_33 ?_
  refine J_istore (lv' := [(7, .int (iI (0))), (6, .int (iI (S 2 (a)))), (5, .int (iI ((((a) * (21)) + (n)) * (21)))), (4, .int (iI ((((a) * (21)) + (p)) * (21)))), (0, .ref (jad G 25)), (1, .int (iI (a))), (2, .int (iI (p))), (3, .int (iI (n)))]) C dX1_givesNoLess_34 (by decide) rfl ?_
  refine J_lv [4, 5, 3, 2, 1, 0] rfl ?_
  exact l_gives hG C S a p n hk hd ha fp fn R _ 0 rfl ⟨⟨by omega, (first_in hk hd hk.1.1 (Int.le_refl _)).1⟩, fun j h1 h2 => by omega⟩
