theorem m_isSum {G : jG} (hG : mG G) (S : jMem) (b a c : Int) (hb : 0 ≤ b ∧ b < 8) (ha : 0 ≤ a ∧ a < 3) (hv : 0 ≤ c ∧ c < 142) (h01 : S 11 (142 * (3 * b + a) + c) = 0 ∨ S 11 (142 * (3 * b + a) + c) = 1) : jM G yX6_isSum cX6_isSum 4 (some .boolean) 0 0 [.ref (jad G 0), .int (iI (b)), .int (iI (a)), .int (iI (c))] S (jPi (fun v S' => S 11 (142 * (3 * b + a) + c) = v ∧ S = S')) := by
  refine jM.of (by decide) (Nat.le_of_ble_eq_true rfl) (fun E C R => ?_)
  show J E G 0 [(0, .ref (jad G 0)), (1, .int (iI (b))), (2, .int (iI (a))), (3, .int (iI (c)))] [] _
  refine J_aload_n C 0 dX6_isSum_0 rfl ?_
  refine g_X6_40 hG C dX6_isSum_1 ?_
  refine J_sipush C dX6_isSum_4 (by decide) ?_
  refine J_iconst C dX6_isSum_7 ?_
  refine J_iload_n C 1 dX6_isSum_8 rfl ?_
  refine J_imul C dX6_isSum_9 ?_
  refine J_iload_n C 2 dX6_isSum_10 rfl ?_
  refine J_iadd C dX6_isSum_11 ?_
  refine J_imul C dX6_isSum_12 ?_
  refine J_iload_n C 3 dX6_isSum_13 rfl ?_
  refine J_iadd C dX6_isSum_14 ?_
  refine mzld hG C dX6_isSum_15 (by omega) (by omega) ?_
  exact J_zret R C dX6_isSum_16 h01 (jPi.mk ⟨rfl, rfl⟩)
theorem m_many {G : jG} (hG : mG G) (S : jMem) (b t a : Int) (hb : 0 ≤ b ∧ b < 8) (ht : 0 ≤ t ∧ t < 6) (ha : 0 ≤ a ∧ a < 3) : jM G yX6_many cX6_many 4 (some .int) 0 0 [.ref (jad G 0), .int (iI (b)), .int (iI (t)), .int (iI (a))] S (jPi (fun v S' => S 12 (18 * b + 3 * t + a) = v ∧ S = S')) := by
  refine jM.of (by decide) (Nat.le_of_ble_eq_true rfl) (fun E C R => ?_)
  show J E G 0 [(0, .ref (jad G 0)), (1, .int (iI (b))), (2, .int (iI (t))), (3, .int (iI (a)))] [] _
  refine J_aload_n C 0 dX6_many_0 rfl ?_
  refine g_X6_44 hG C dX6_many_1 ?_
  refine J_bipush C dX6_many_4 (by decide) ?_
  refine J_iload_n C 1 dX6_many_6 rfl ?_
  refine J_imul C dX6_many_7 ?_
  refine J_iconst C dX6_many_8 ?_
  refine J_iload_n C 2 dX6_many_9 rfl ?_
  refine J_imul C dX6_many_10 ?_
  refine J_iadd C dX6_many_11 ?_
  refine J_iload_n C 3 dX6_many_12 rfl ?_
  refine J_iadd C dX6_many_13 ?_
  refine mald hG C 12 144 (by decide) dX6_many_14 (by omega) (by omega) ?_
  exact J_iret R C dX6_many_15 (jPi.mk ⟨by rfl, rfl⟩)
theorem m_waysOf {G : jG} (hG : mG G) (S : jMem) (b t : Int) (hb : 0 ≤ b ∧ b < 8) (ht : 0 ≤ t ∧ t < 6) : jM G yX6_waysOf cX6_waysOf 3 (some .int) 0 0 [.ref (jad G 0), .int (iI (b)), .int (iI (t))] S (jPi (fun v S' => S 13 (6 * b + t) = v ∧ S = S')) := by
  refine jM.of (by decide) (Nat.le_of_ble_eq_true rfl) (fun E C R => ?_)
  show J E G 0 [(0, .ref (jad G 0)), (1, .int (iI (b))), (2, .int (iI (t)))] [] _
  refine J_aload_n C 0 dX6_waysOf_0 rfl ?_
  refine g_X6_47 hG C dX6_waysOf_1 ?_
  refine J_bipush C dX6_waysOf_4 (by decide) ?_
  refine J_iload_n C 1 dX6_waysOf_6 rfl ?_
  refine J_imul C dX6_waysOf_7 ?_
  refine J_iload_n C 2 dX6_waysOf_8 rfl ?_
  refine J_iadd C dX6_waysOf_9 ?_
  refine mald hG C 13 48 (by decide) dX6_waysOf_10 (by omega) (by omega) ?_
  exact J_iret R C dX6_waysOf_11 (jPi.mk ⟨by rfl, rfl⟩)
theorem m_ways {G : jG} (hG : mG G) (S : jMem) (b : Int) (hb : 0 ≤ b ∧ b < 8) : jM G yX6_ways cX6_ways 4 (some .int) 1 22 [.ref (jad G 0), .int (iI (b))] S (jPi (fun v S' => 0 + S 13 (6 * b + 0) + S 13 (6 * b + 1) + S 13 (6 * b + 2) + S 13 (6 * b + 3) + S 13 (6 * b + 4) + S 13 (6 * b + 5) = v ∧ S = S')) := by
  refine jM.of (by decide) (Nat.le_of_ble_eq_true rfl) (fun E C R => ?_)
  show J E G 0 [(0, .ref (jad G 0)), (1, .int (iI (b)))] [] _
  refine J_iconst C dX6_ways_0 ?_
  refine J_istore_n (lv' := [(2, .int (iI (0))), (0, .ref (jad G 0)), (1, .int (iI (b)))]) C dX6_ways_1 (by decide) rfl ?_
  refine J_iconst C dX6_ways_2 ?_
  refine J_istore_n (lv' := [(3, .int (iI (0))), (2, .int (iI (0))), (0, .ref (jad G 0)), (1, .int (iI (b)))]) C dX6_ways_3 (by decide) rfl ?_
  refine J_iload_n C 0 dX6_ways_4 rfl ?_
  refine J_bipush C dX6_ways_5 (by decide) ?_
  refine J_icmp_ge C 25 dX6_ways_7 (by decide) (by omega) (by omega) (fun h => absurd h (by omega)) (fun _ => ?_)
  refine J_iload_n C 1 dX6_ways_10 rfl ?_
  refine J_aload_n C 2 dX6_ways_11 rfl ?_
  refine J_iload_n C 3 dX6_ways_12 rfl ?_
  refine J_iload_n C 0 dX6_ways_13 rfl ?_
  refine J_callV (k := 0) (rest := [.int (iI (0))]) C (m_waysOf hG S (b) (0) (by omega) (by omega)) kc_X6_waysOf kl_X6_128 (by rw [hG.2]; decide) (by rw [hG.1]; rfl) rfl dX6_ways_14 rfl rfl (by decide) (Nat.le_of_ble_eq_true rfl) (J_ki (fun v2 S2 h2 => ?_))
  obtain ⟨rfl, rfl⟩ := h2
  refine J_iadd C dX6_ways_17 ?_
  refine J_istore_n (lv' := [(2, .int (iI ((0) + (S 13 (6 * b + 0))))), (3, .int (iI (0))), (0, .ref (jad G 0)), (1, .int (iI (b)))]) C dX6_ways_18 (by decide) rfl ?_
  refine J_iinc (lv' := [(3, .int (iI (1))), (2, .int (iI ((0) + (S 13 (6 * b + 0))))), (0, .ref (jad G 0)), (1, .int (iI (b)))]) C 1 dX6_ways_19 rfl (by decide) rfl ?_
  refine J_goto C 4 dX6_ways_22 (by decide) ?_
  refine J_iload_n C 0 dX6_ways_4 rfl ?_
  refine J_bipush C dX6_ways_5 (by decide) ?_
  refine J_icmp_ge C 25 dX6_ways_7 (by decide) (by omega) (by omega) (fun h => absurd h (by omega)) (fun _ => ?_)
  refine J_iload_n C 1 dX6_ways_10 rfl ?_
  refine J_aload_n C 2 dX6_ways_11 rfl ?_
  refine J_iload_n C 3 dX6_ways_12 rfl ?_
  refine J_iload_n C 0 dX6_ways_13 rfl ?_
  refine J_callV (k := 0) (rest := [.int (iI ((0) + (S 13 (6 * b + 0))))]) C (m_waysOf hG S (b) (1) (by omega) (by omega)) kc_X6_waysOf kl_X6_128 (by rw [hG.2]; decide) (by rw [hG.1]; rfl) rfl dX6_ways_14 rfl rfl (by decide) (Nat.le_of_ble_eq_true rfl) (J_ki (fun v4 S4 h4 => ?_))
  obtain ⟨rfl, rfl⟩ := h4
  refine J_iadd C dX6_ways_17 ?_
  refine J_istore_n (lv' := [(2, .int (iI (((0) + (S 13 (6 * b + 0))) + (S 13 (6 * b + 1))))), (3, .int (iI (1))), (0, .ref (jad G 0)), (1, .int (iI (b)))]) C dX6_ways_18 (by decide) rfl ?_
  refine J_iinc (lv' := [(3, .int (iI (2))), (2, .int (iI (((0) + (S 13 (6 * b + 0))) + (S 13 (6 * b + 1))))), (0, .ref (jad G 0)), (1, .int (iI (b)))]) C 1 dX6_ways_19 rfl (by decide) rfl ?_
  refine J_goto C 4 dX6_ways_22 (by decide) ?_
  refine J_iload_n C 0 dX6_ways_4 rfl ?_
  refine J_bipush C dX6_ways_5 (by decide) ?_
  refine J_icmp_ge C 25 dX6_ways_7 (by decide) (by omega) (by omega) (fun h => absurd h (by omega)) (fun _ => ?_)
  refine J_iload_n C 1 dX6_ways_10 rfl ?_
  refine J_aload_n C 2 dX6_ways_11 rfl ?_
  refine J_iload_n C 3 dX6_ways_12 rfl ?_
  refine J_iload_n C 0 dX6_ways_13 rfl ?_
  refine J_callV (k := 0) (rest := [.int (iI (((0) + (S 13 (6 * b + 0))) + (S 13 (6 * b + 1))))]) C (m_waysOf hG S (b) (2) (by omega) (by omega)) kc_X6_waysOf kl_X6_128 (by rw [hG.2]; decide) (by rw [hG.1]; rfl) rfl dX6_ways_14 rfl rfl (by decide) (Nat.le_of_ble_eq_true rfl) (J_ki (fun v6 S6 h6 => ?_))
  obtain ⟨rfl, rfl⟩ := h6
  refine J_iadd C dX6_ways_17 ?_
  refine J_istore_n (lv' := [(2, .int (iI ((((0) + (S 13 (6 * b + 0))) + (S 13 (6 * b + 1))) + (S 13 (6 * b + 2))))), (3, .int (iI (2))), (0, .ref (jad G 0)), (1, .int (iI (b)))]) C dX6_ways_18 (by decide) rfl ?_
  refine J_iinc (lv' := [(3, .int (iI (3))), (2, .int (iI ((((0) + (S 13 (6 * b + 0))) + (S 13 (6 * b + 1))) + (S 13 (6 * b + 2))))), (0, .ref (jad G 0)), (1, .int (iI (b)))]) C 1 dX6_ways_19 rfl (by decide) rfl ?_
  refine J_goto C 4 dX6_ways_22 (by decide) ?_
  refine J_iload_n C 0 dX6_ways_4 rfl ?_
  refine J_bipush C dX6_ways_5 (by decide) ?_
  refine J_icmp_ge C 25 dX6_ways_7 (by decide) (by omega) (by omega) (fun h => absurd h (by omega)) (fun _ => ?_)
  refine J_iload_n C 1 dX6_ways_10 rfl ?_
  refine J_aload_n C 2 dX6_ways_11 rfl ?_
  refine J_iload_n C 3 dX6_ways_12 rfl ?_
  refine J_iload_n C 0 dX6_ways_13 rfl ?_
  refine J_callV (k := 0) (rest := [.int (iI ((((0) + (S 13 (6 * b + 0))) + (S 13 (6 * b + 1))) + (S 13 (6 * b + 2))))]) C (m_waysOf hG S (b) (3) (by omega) (by omega)) kc_X6_waysOf kl_X6_128 (by rw [hG.2]; decide) (by rw [hG.1]; rfl) rfl dX6_ways_14 rfl rfl (by decide) (Nat.le_of_ble_eq_true rfl) (J_ki (fun v8 S8 h8 => ?_))
  obtain ⟨rfl, rfl⟩ := h8
  refine J_iadd C dX6_ways_17 ?_
  refine J_istore_n (lv' := [(2, .int (iI (((((0) + (S 13 (6 * b + 0))) + (S 13 (6 * b + 1))) + (S 13 (6 * b + 2))) + (S 13 (6 * b + 3))))), (3, .int (iI (3))), (0, .ref (jad G 0)), (1, .int (iI (b)))]) C dX6_ways_18 (by decide) rfl ?_
  refine J_iinc (lv' := [(3, .int (iI (4))), (2, .int (iI (((((0) + (S 13 (6 * b + 0))) + (S 13 (6 * b + 1))) + (S 13 (6 * b + 2))) + (S 13 (6 * b + 3))))), (0, .ref (jad G 0)), (1, .int (iI (b)))]) C 1 dX6_ways_19 rfl (by decide) rfl ?_
  refine J_goto C 4 dX6_ways_22 (by decide) ?_
  refine J_iload_n C 0 dX6_ways_4 rfl ?_
  refine J_bipush C dX6_ways_5 (by decide) ?_
  refine J_icmp_ge C 25 dX6_ways_7 (by decide) (by omega) (by omega) (fun h => absurd h (by omega)) (fun _ => ?_)
  refine J_iload_n C 1 dX6_ways_10 rfl ?_
  refine J_aload_n C 2 dX6_ways_11 rfl ?_
  refine J_iload_n C 3 dX6_ways_12 rfl ?_
  refine J_iload_n C 0 dX6_ways_13 rfl ?_
  refine J_callV (k := 0) (rest := [.int (iI (((((0) + (S 13 (6 * b + 0))) + (S 13 (6 * b + 1))) + (S 13 (6 * b + 2))) + (S 13 (6 * b + 3))))]) C (m_waysOf hG S (b) (4) (by omega) (by omega)) kc_X6_waysOf kl_X6_128 (by rw [hG.2]; decide) (by rw [hG.1]; rfl) rfl dX6_ways_14 rfl rfl (by decide) (Nat.le_of_ble_eq_true rfl) (J_ki (fun v10 S10 h10 => ?_))
  obtain ⟨rfl, rfl⟩ := h10
  refine J_iadd C dX6_ways_17 ?_
  refine J_istore_n (lv' := [(2, .int (iI ((((((0) + (S 13 (6 * b + 0))) + (S 13 (6 * b + 1))) + (S 13 (6 * b + 2))) + (S 13 (6 * b + 3))) + (S 13 (6 * b + 4))))), (3, .int (iI (4))), (0, .ref (jad G 0)), (1, .int (iI (b)))]) C dX6_ways_18 (by decide) rfl ?_
  refine J_iinc (lv' := [(3, .int (iI (5))), (2, .int (iI ((((((0) + (S 13 (6 * b + 0))) + (S 13 (6 * b + 1))) + (S 13 (6 * b + 2))) + (S 13 (6 * b + 3))) + (S 13 (6 * b + 4))))), (0, .ref (jad G 0)), (1, .int (iI (b)))]) C 1 dX6_ways_19 rfl (by decide) rfl ?_
  refine J_goto C 4 dX6_ways_22 (by decide) ?_
  refine J_iload_n C 0 dX6_ways_4 rfl ?_
  refine J_bipush C dX6_ways_5 (by decide) ?_
  refine J_icmp_ge C 25 dX6_ways_7 (by decide) (by omega) (by omega) (fun h => absurd h (by omega)) (fun _ => ?_)
  refine J_iload_n C 1 dX6_ways_10 rfl ?_
  refine J_aload_n C 2 dX6_ways_11 rfl ?_
  refine J_iload_n C 3 dX6_ways_12 rfl ?_
  refine J_iload_n C 0 dX6_ways_13 rfl ?_
  refine J_callV (k := 0) (rest := [.int (iI ((((((0) + (S 13 (6 * b + 0))) + (S 13 (6 * b + 1))) + (S 13 (6 * b + 2))) + (S 13 (6 * b + 3))) + (S 13 (6 * b + 4))))]) C (m_waysOf hG S (b) (5) (by omega) (by omega)) kc_X6_waysOf kl_X6_128 (by rw [hG.2]; decide) (by rw [hG.1]; rfl) rfl dX6_ways_14 rfl rfl (by decide) (Nat.le_of_ble_eq_true rfl) (J_ki (fun v12 S12 h12 => ?_))
  obtain ⟨rfl, rfl⟩ := h12
  refine J_iadd C dX6_ways_17 ?_
  refine J_istore_n (lv' := [(2, .int (iI (((((((0) + (S 13 (6 * b + 0))) + (S 13 (6 * b + 1))) + (S 13 (6 * b + 2))) + (S 13 (6 * b + 3))) + (S 13 (6 * b + 4))) + (S 13 (6 * b + 5))))), (3, .int (iI (5))), (0, .ref (jad G 0)), (1, .int (iI (b)))]) C dX6_ways_18 (by decide) rfl ?_
  refine J_iinc (lv' := [(3, .int (iI (6))), (2, .int (iI (((((((0) + (S 13 (6 * b + 0))) + (S 13 (6 * b + 1))) + (S 13 (6 * b + 2))) + (S 13 (6 * b + 3))) + (S 13 (6 * b + 4))) + (S 13 (6 * b + 5))))), (0, .ref (jad G 0)), (1, .int (iI (b)))]) C 1 dX6_ways_19 rfl (by decide) rfl ?_
  refine J_goto C 4 dX6_ways_22 (by decide) ?_
  refine J_iload_n C 0 dX6_ways_4 rfl ?_
  refine J_bipush C dX6_ways_5 (by decide) ?_
  refine J_icmp_ge C 25 dX6_ways_7 (by decide) (by omega) (by omega) (fun _ => ?_) (fun h => absurd h (by omega))
  refine J_iload_n C 1 dX6_ways_25 rfl ?_
  exact J_iret R C dX6_ways_26 (jPi.mk ⟨by rfl, rfl⟩)
theorem lm_first {E : jEnv} {G : jG} (hG : mG G) (C : jX E G cX6_isFirst 5 RX6 2 45) (S : jMem) (b t : Int) (hk : mOK S) (hb : 0 ≤ b ∧ b < 8) (ht : 0 ≤ t ∧ t < 6) (R : jR E G (some .boolean) (jPi (fun v S' => bb (pfirst (S 2) (S 4) b t) = v ∧ S = S'))) : ∀ (mm : Nat) (d u : Int), mm = (t - u).toNat → ((0 ≤ u ∧ u ≤ t) ∧ (d = 0 ∨ d = 1) ∧ (d = 1 ↔ phas (S 4) b t ∧ ¬ anyB (fun u => phas (S 4) b u ∧ psame (S 2) b u t) u)) → J E G 10 [(0, .ref (jad G 0)), (1, .int (iI (b))), (2, .int (iI (t))), (3, .int (iI (d))), (4, .int (iI (u)))] [] S := by
  intro mm
  induction mm using Nat.strongRecOn with | ind mm ih => ?_
  intro d u hm hi
  obtain ⟨hu, hA, hB⟩ := hi
  refine J_iload C 4 dX6_isFirst_10 rfl ?_
  refine J_iload_n C 2 dX6_isFirst_12 rfl ?_
  refine J_icmp_ge C 96 dX6_isFirst_13 (by decide) (by omega) (by omega) (fun h1 => ?_) (fun h1 => ?_)
  · refine J_iload_n C 3 dX6_isFirst_96 rfl ?_
    have eu : u = t := by omega
    rw [eu] at hB
    refine J_zret R C dX6_isFirst_97 hA (jPi.mk ⟨?_, rfl⟩)
    rcases hA with rfl | rfl
    · exact bb_f (fun h => by have := hB.mpr h; omega)
    · exact bb_t (hB.mp rfl)
  · refine J_iload_n C 3 dX6_isFirst_16 rfl ?_
    refine J_if_eq C 88 dX6_isFirst_17 (by decide) (by omega) (fun h2 => ?_) (fun h2 => ?_)
    · refine J_iconst C dX6_isFirst_88 ?_
      refine J_istore_n (lv' := [(3, .int (iI (0))), (0, .ref (jad G 0)), (1, .int (iI (b))), (2, .int (iI (t))), (4, .int (iI (u)))]) C dX6_isFirst_89 (by decide) rfl ?_
      refine J_iinc (lv' := [(4, .int (iI (u + 1))), (3, .int (iI (0))), (0, .ref (jad G 0)), (1, .int (iI (b))), (2, .int (iI (t)))]) C 4 dX6_isFirst_90 rfl (by decide) rfl ?_
      refine J_goto C 10 dX6_isFirst_93 (by decide) ?_
      refine J_lv [2, 3, 4, 1, 0] rfl ?_
      refine ih _ (by omega) 0 (u + 1) rfl ⟨by omega, Or.inl rfl, ff_f hB hu.1 ?_⟩
      first | exact Or.inl (by omega) | exact Or.inr ⟨by omega, by omega⟩
    · refine J_aload_n C 0 dX6_isFirst_20 rfl ?_
      refine J_iload_n C 1 dX6_isFirst_21 rfl ?_
      refine J_iload C 4 dX6_isFirst_22 rfl ?_
      refine J_callV (k := 0) (rest := []) C (m_has hG S (b) (u) hk (by omega) (by omega)) kc_X6_has kl_X6_118 (by rw [hG.2]; decide) (by rw [hG.1]; rfl) rfl dX6_isFirst_24 rfl rfl (by decide) (Nat.le_of_ble_eq_true rfl) (J_ki (fun v3 S3 h3 => ?_))
      obtain ⟨rfl, rfl⟩ := h3
      refine J_if_eq_b C 84 dX6_isFirst_27 (by decide) (fun h4 => ?_) (fun h4 => ?_)
      · refine J_iconst C dX6_isFirst_84 ?_
        refine J_goto C 89 dX6_isFirst_85 (by decide) ?_
        refine J_istore_n (lv' := [(3, .int (iI (1))), (0, .ref (jad G 0)), (1, .int (iI (b))), (2, .int (iI (t))), (4, .int (iI (u)))]) C dX6_isFirst_89 (by decide) rfl ?_
        refine J_iinc (lv' := [(4, .int (iI (u + 1))), (3, .int (iI (1))), (0, .ref (jad G 0)), (1, .int (iI (b))), (2, .int (iI (t)))]) C 4 dX6_isFirst_90 rfl (by decide) rfl ?_
        refine J_goto C 10 dX6_isFirst_93 (by decide) ?_
        refine J_lv [2, 3, 4, 1, 0] rfl ?_
        exact ih _ (by omega) 1 (u + 1) rfl ⟨by omega, Or.inr rfl, ff_t hB hu.1 (by omega) (fun q => by have q1 := q.1; have q2 := q.2; omega)⟩
      · refine J_aload_n C 0 dX6_isFirst_30 rfl ?_
        refine J_iload_n C 1 dX6_isFirst_31 rfl ?_
        refine J_iload C 4 dX6_isFirst_32 rfl ?_
        refine J_iconst C dX6_isFirst_34 ?_
        refine J_callV (k := 0) (rest := []) C (m_extent hG S (b) (u) (0) (by omega) (by omega) (by omega)) kc_X6_extent kl_X6_121 (by rw [hG.2]; decide) (by rw [hG.1]; rfl) rfl dX6_isFirst_35 rfl rfl (by decide) (Nat.le_of_ble_eq_true rfl) (J_ki (fun v5 S5 h5 => ?_))
        obtain ⟨rfl, rfl⟩ := h5
        have q1 := pext_in hk (b := b) (t := u) (a := 0) (by omega) (by omega)
        refine J_aload_n C 0 dX6_isFirst_38 rfl ?_
        refine J_iload_n C 1 dX6_isFirst_39 rfl ?_
        refine J_iload_n C 2 dX6_isFirst_40 rfl ?_
        refine J_iconst C dX6_isFirst_41 ?_
        refine J_callV (k := 0) (rest := [.int (iI (pext (S 2) (b) (u) (0)))]) C (m_extent hG S (b) (t) (0) (by omega) (by omega) (by omega)) kc_X6_extent kl_X6_121 (by rw [hG.2]; decide) (by rw [hG.1]; rfl) rfl dX6_isFirst_42 rfl rfl (by decide) (Nat.le_of_ble_eq_true rfl) (J_ki (fun v6 S6 h6 => ?_))
        obtain ⟨rfl, rfl⟩ := h6
        have q2 := pext_in hk (b := b) (t := t) (a := 0) (by omega) (by omega)
        refine J_icmp_ne C 84 dX6_isFirst_45 (by decide) (by omega) (by omega) (fun h7 => ?_) (fun h7 => ?_)
        · refine J_iconst C dX6_isFirst_84 ?_
          refine J_goto C 89 dX6_isFirst_85 (by decide) ?_
          refine J_istore_n (lv' := [(3, .int (iI (1))), (0, .ref (jad G 0)), (1, .int (iI (b))), (2, .int (iI (t))), (4, .int (iI (u)))]) C dX6_isFirst_89 (by decide) rfl ?_
          refine J_iinc (lv' := [(4, .int (iI (u + 1))), (3, .int (iI (1))), (0, .ref (jad G 0)), (1, .int (iI (b))), (2, .int (iI (t)))]) C 4 dX6_isFirst_90 rfl (by decide) rfl ?_
          refine J_goto C 10 dX6_isFirst_93 (by decide) ?_
          refine J_lv [2, 3, 4, 1, 0] rfl ?_
          exact ih _ (by omega) 1 (u + 1) rfl ⟨by omega, Or.inr rfl, ff_t hB hu.1 (by omega) (fun q => by have q1 := q.1; have q2 := q.2; omega)⟩
        · refine J_aload_n C 0 dX6_isFirst_48 rfl ?_
          refine J_iload_n C 1 dX6_isFirst_49 rfl ?_
          refine J_iload C 4 dX6_isFirst_50 rfl ?_
          refine J_iconst C dX6_isFirst_52 ?_
          refine J_callV (k := 0) (rest := []) C (m_extent hG S (b) (u) (1) (by omega) (by omega) (by omega)) kc_X6_extent kl_X6_121 (by rw [hG.2]; decide) (by rw [hG.1]; rfl) rfl dX6_isFirst_53 rfl rfl (by decide) (Nat.le_of_ble_eq_true rfl) (J_ki (fun v8 S8 h8 => ?_))
          obtain ⟨rfl, rfl⟩ := h8
          have q3 := pext_in hk (b := b) (t := u) (a := 1) (by omega) (by omega)
          refine J_aload_n C 0 dX6_isFirst_56 rfl ?_
          refine J_iload_n C 1 dX6_isFirst_57 rfl ?_
          refine J_iload_n C 2 dX6_isFirst_58 rfl ?_
          refine J_iconst C dX6_isFirst_59 ?_
          refine J_callV (k := 0) (rest := [.int (iI (pext (S 2) (b) (u) (1)))]) C (m_extent hG S (b) (t) (1) (by omega) (by omega) (by omega)) kc_X6_extent kl_X6_121 (by rw [hG.2]; decide) (by rw [hG.1]; rfl) rfl dX6_isFirst_60 rfl rfl (by decide) (Nat.le_of_ble_eq_true rfl) (J_ki (fun v9 S9 h9 => ?_))
          obtain ⟨rfl, rfl⟩ := h9
          have q4 := pext_in hk (b := b) (t := t) (a := 1) (by omega) (by omega)
          refine J_icmp_ne C 84 dX6_isFirst_63 (by decide) (by omega) (by omega) (fun h10 => ?_) (fun h10 => ?_)
          · refine J_iconst C dX6_isFirst_84 ?_
            refine J_goto C 89 dX6_isFirst_85 (by decide) ?_
            refine J_istore_n (lv' := [(3, .int (iI (1))), (0, .ref (jad G 0)), (1, .int (iI (b))), (2, .int (iI (t))), (4, .int (iI (u)))]) C dX6_isFirst_89 (by decide) rfl ?_
            refine J_iinc (lv' := [(4, .int (iI (u + 1))), (3, .int (iI (1))), (0, .ref (jad G 0)), (1, .int (iI (b))), (2, .int (iI (t)))]) C 4 dX6_isFirst_90 rfl (by decide) rfl ?_
            refine J_goto C 10 dX6_isFirst_93 (by decide) ?_
            refine J_lv [2, 3, 4, 1, 0] rfl ?_
            exact ih _ (by omega) 1 (u + 1) rfl ⟨by omega, Or.inr rfl, ff_t hB hu.1 (by omega) (fun q => by have q1 := q.1; have q2 := q.2; omega)⟩
          · refine J_aload_n C 0 dX6_isFirst_66 rfl ?_
            refine J_iload_n C 1 dX6_isFirst_67 rfl ?_
            refine J_iload C 4 dX6_isFirst_68 rfl ?_
            refine J_iconst C dX6_isFirst_70 ?_
            refine J_callV (k := 0) (rest := []) C (m_extent hG S (b) (u) (2) (by omega) (by omega) (by omega)) kc_X6_extent kl_X6_121 (by rw [hG.2]; decide) (by rw [hG.1]; rfl) rfl dX6_isFirst_71 rfl rfl (by decide) (Nat.le_of_ble_eq_true rfl) (J_ki (fun v11 S11 h11 => ?_))
            obtain ⟨rfl, rfl⟩ := h11
            have q5 := pext_in hk (b := b) (t := u) (a := 2) (by omega) (by omega)
            refine J_aload_n C 0 dX6_isFirst_74 rfl ?_
            refine J_iload_n C 1 dX6_isFirst_75 rfl ?_
            refine J_iload_n C 2 dX6_isFirst_76 rfl ?_
            refine J_iconst C dX6_isFirst_77 ?_
            refine J_callV (k := 0) (rest := [.int (iI (pext (S 2) (b) (u) (2)))]) C (m_extent hG S (b) (t) (2) (by omega) (by omega) (by omega)) kc_X6_extent kl_X6_121 (by rw [hG.2]; decide) (by rw [hG.1]; rfl) rfl dX6_isFirst_78 rfl rfl (by decide) (Nat.le_of_ble_eq_true rfl) (J_ki (fun v12 S12 h12 => ?_))
            obtain ⟨rfl, rfl⟩ := h12
            have q6 := pext_in hk (b := b) (t := t) (a := 2) (by omega) (by omega)
            refine J_icmp_eq C 88 dX6_isFirst_81 (by decide) (by omega) (by omega) (fun h13 => ?_) (fun h13 => ?_)
            · refine J_iconst C dX6_isFirst_88 ?_
              refine J_istore_n (lv' := [(3, .int (iI (0))), (0, .ref (jad G 0)), (1, .int (iI (b))), (2, .int (iI (t))), (4, .int (iI (u)))]) C dX6_isFirst_89 (by decide) rfl ?_
              refine J_iinc (lv' := [(4, .int (iI (u + 1))), (3, .int (iI (0))), (0, .ref (jad G 0)), (1, .int (iI (b))), (2, .int (iI (t)))]) C 4 dX6_isFirst_90 rfl (by decide) rfl ?_
              refine J_goto C 10 dX6_isFirst_93 (by decide) ?_
              refine J_lv [2, 3, 4, 1, 0] rfl ?_
              refine ih _ (by omega) 0 (u + 1) rfl ⟨by omega, Or.inl rfl, ff_f hB hu.1 ?_⟩
              first | exact Or.inl (by omega) | exact Or.inr ⟨by omega, by omega⟩
            · refine J_iconst C dX6_isFirst_84 ?_
              refine J_goto C 89 dX6_isFirst_85 (by decide) ?_
              refine J_istore_n (lv' := [(3, .int (iI (1))), (0, .ref (jad G 0)), (1, .int (iI (b))), (2, .int (iI (t))), (4, .int (iI (u)))]) C dX6_isFirst_89 (by decide) rfl ?_
              refine J_iinc (lv' := [(4, .int (iI (u + 1))), (3, .int (iI (1))), (0, .ref (jad G 0)), (1, .int (iI (b))), (2, .int (iI (t)))]) C 4 dX6_isFirst_90 rfl (by decide) rfl ?_
              refine J_goto C 10 dX6_isFirst_93 (by decide) ?_
              refine J_lv [2, 3, 4, 1, 0] rfl ?_
              exact ih _ (by omega) 1 (u + 1) rfl ⟨by omega, Or.inr rfl, ff_t hB hu.1 (by omega) (fun q => by have q1 := q.1; have q2 := q.2; omega)⟩
theorem m_isFirst {G : jG} (hG : mG G) (S : jMem) (b t : Int) (hk : mOK S) (hb : 0 ≤ b ∧ b < 8) (ht : 0 ≤ t ∧ t < 6) : jM G yX6_isFirst cX6_isFirst 5 (some .boolean) 2 45 [.ref (jad G 0), .int (iI (b)), .int (iI (t))] S (jPi (fun v S' => bb (pfirst (S 2) (S 4) b t) = v ∧ S = S')) := by
  refine jM.of (by decide) (Nat.le_of_ble_eq_true rfl) (fun E C R => ?_)
  show J E G 0 [(0, .ref (jad G 0)), (1, .int (iI (b))), (2, .int (iI (t)))] [] _
  refine J_aload_n C 0 dX6_isFirst_0 rfl ?_
  refine J_iload_n C 1 dX6_isFirst_1 rfl ?_
  refine J_iload_n C 2 dX6_isFirst_2 rfl ?_
  refine J_callV (k := 0) (rest := []) C (m_has hG S (b) (t) hk (by omega) (by omega)) kc_X6_has kl_X6_118 (by rw [hG.2]; decide) (by rw [hG.1]; rfl) rfl dX6_isFirst_3 rfl rfl (by decide) (Nat.le_of_ble_eq_true rfl) (J_ki (fun v1 S1 h1 => ?_))
  obtain ⟨rfl, rfl⟩ := h1
  refine J_istore_n (lv' := [(3, .int (iI (bb (phas (S 4) (b) (t))))), (0, .ref (jad G 0)), (1, .int (iI (b))), (2, .int (iI (t)))]) C dX6_isFirst_6 (by decide) rfl ?_
  refine J_iconst C dX6_isFirst_7 ?_
  refine J_istore (lv' := [(4, .int (iI (0))), (3, .int (iI (bb (phas (S 4) (b) (t))))), (0, .ref (jad G 0)), (1, .int (iI (b))), (2, .int (iI (t)))]) C dX6_isFirst_8 (by decide) rfl ?_
  refine J_lv [2, 3, 4, 1, 0] rfl ?_
  exact lm_first hG C S b t hk hb ht R _ _ 0 rfl ⟨by omega, bb_or _, ⟨fun q => ⟨bb_1.mp q, anyB_n⟩, fun q => bb_t q.1⟩⟩
theorem lm_counted {E : jEnv} {G : jG} (hG : mG G) (C : jX E G cX6_counted 6 RX6 2 45) (S : jMem) (b t a : Int) (hk : mOK S) (hb : 0 ≤ b ∧ b < 8) (ht : 0 ≤ t ∧ t < 6) (ha : 0 ≤ a ∧ a < 3) (hz : ∀ v, 0 ≤ v → v < 142 → S 11 (142 * (3 * b + a) + v) = 0 ∨ S 11 (142 * (3 * b + a) + v) = 1) (R : jR E G (some .int) (jPi (fun v S' => isum (fun v => S 11 (142 * (3 * b + a) + v)) 0 (S 1 a - pext (S 2) b t a + 1 - 0).toNat = v ∧ S = S'))) : ∀ (mm : Nat) (v acc : Int), mm = (22 - v).toNat → ((0 ≤ v ∧ v ≤ 21) ∧ acc + isum (fun v => S 11 (142 * (3 * b + a) + v)) v (S 1 a - pext (S 2) b t a + 1 - v).toNat = isum (fun v => S 11 (142 * (3 * b + a) + v)) 0 (S 1 a - pext (S 2) b t a + 1 - 0).toNat) → J E G 6 [(0, .ref (jad G 0)), (1, .int (iI (b))), (2, .int (iI (t))), (3, .int (iI (a))), (4, .int (iI (acc))), (5, .int (iI (v)))] [] S := by
  intro mm
  induction mm using Nat.strongRecOn with | ind mm ih => ?_
  intro v acc hm hi
  have hL := hk.2.1 a (by omega) (by omega)
  refine J_iload C 5 dX6_counted_6 rfl ?_
  refine J_aload_n C 0 dX6_counted_8 rfl ?_
  refine g_X6_7 hG C dX6_counted_9 ?_
  refine J_iload_n C 3 dX6_counted_12 rfl ?_
  refine mald hG C 1 3 (by decide) dX6_counted_13 (by omega) (by omega) ?_
  refine J_aload_n C 0 dX6_counted_14 rfl ?_
  refine J_iload_n C 1 dX6_counted_15 rfl ?_
  refine J_iload_n C 2 dX6_counted_16 rfl ?_
  refine J_iload_n C 3 dX6_counted_17 rfl ?_
  refine J_callV (k := 0) (rest := [.int (iI (S 1 (a))), .int (iI (v))]) C (m_extent hG S (b) (t) (a) (by omega) (by omega) (by omega)) kc_X6_extent kl_X6_121 (by rw [hG.2]; decide) (by rw [hG.1]; rfl) rfl dX6_counted_18 rfl rfl (by decide) (Nat.le_of_ble_eq_true rfl) (J_ki (fun v1 S1 h1 => ?_))
  obtain ⟨rfl, rfl⟩ := h1
  have q7 := pext_in hk (b := b) (t := t) (a := a) (by omega) (by omega)
  refine J_isub C dX6_counted_21 ?_
  refine J_icmp_gt C 52 dX6_counted_22 (by decide) (by omega) (by omega) (fun h2 => ?_) (fun h2 => ?_)
  · refine J_iload C 4 dX6_counted_52 rfl ?_
    exact J_iret R C dX6_counted_54 (jPi.mk ⟨by have e := isum_end (fun v => S 11 (142 * (3 * b + a) + v)) (i := v) (hi := S 1 a - pext (S 2) b t a + 1) (by omega); omega, rfl⟩)
  · refine J_iload C 4 dX6_counted_25 rfl ?_
    refine J_aload_n C 0 dX6_counted_27 rfl ?_
    refine J_iload_n C 1 dX6_counted_28 rfl ?_
    refine J_iload_n C 3 dX6_counted_29 rfl ?_
    refine J_iload C 5 dX6_counted_30 rfl ?_
    have hzz := hz v (by omega) (by omega)
    refine J_callV (k := 0) (rest := [.int (iI (acc))]) C (m_isSum hG S (b) (a) (v) (by omega) (by omega) (by omega) (by first | exact hz _ (by omega) (by omega) | omega)) kc_X6_isSum kl_X6_124 (by rw [hG.2]; decide) (by rw [hG.1]; rfl) rfl dX6_counted_32 rfl rfl (by decide) (Nat.le_of_ble_eq_true rfl) (J_ki (fun v3 S3 h3 => ?_))
    obtain ⟨rfl, rfl⟩ := h3
    refine J_if_eq C 42 dX6_counted_35 (by decide) (by omega) (fun h4 => ?_) (fun h4 => ?_)
    · refine J_iconst C dX6_counted_42 ?_
      refine J_iadd C dX6_counted_43 ?_
      refine J_istore (lv' := [(4, .int (iI ((acc) + (0)))), (0, .ref (jad G 0)), (1, .int (iI (b))), (2, .int (iI (t))), (3, .int (iI (a))), (5, .int (iI (v)))]) C dX6_counted_44 (by decide) rfl ?_
      refine J_iinc (lv' := [(5, .int (iI (v + 1))), (4, .int (iI ((acc) + (0)))), (0, .ref (jad G 0)), (1, .int (iI (b))), (2, .int (iI (t))), (3, .int (iI (a)))]) C 5 dX6_counted_46 rfl (by decide) rfl ?_
      refine J_goto C 6 dX6_counted_49 (by decide) ?_
      have e := isum_step (fun v => S 11 (142 * (3 * b + a) + v)) (i := v) (hi := S 1 a - pext (S 2) b t a + 1) (by omega)
      try dsimp only at e
      have hzz := hz v (by omega) (by omega)
      refine J_lv [2, 3, 4, 5, 1, 0] rfl ?_
      exact ih _ (by omega) (v + 1) _ rfl ⟨by omega, by omega⟩
    · refine J_iconst C dX6_counted_38 ?_
      refine J_goto C 43 dX6_counted_39 (by decide) ?_
      refine J_iadd C dX6_counted_43 ?_
      refine J_istore (lv' := [(4, .int (iI ((acc) + (1)))), (0, .ref (jad G 0)), (1, .int (iI (b))), (2, .int (iI (t))), (3, .int (iI (a))), (5, .int (iI (v)))]) C dX6_counted_44 (by decide) rfl ?_
      refine J_iinc (lv' := [(5, .int (iI (v + 1))), (4, .int (iI ((acc) + (1)))), (0, .ref (jad G 0)), (1, .int (iI (b))), (2, .int (iI (t))), (3, .int (iI (a)))]) C 5 dX6_counted_46 rfl (by decide) rfl ?_
      refine J_goto C 6 dX6_counted_49 (by decide) ?_
      have e := isum_step (fun v => S 11 (142 * (3 * b + a) + v)) (i := v) (hi := S 1 a - pext (S 2) b t a + 1) (by omega)
      try dsimp only at e
      have hzz := hz v (by omega) (by omega)
      refine J_lv [2, 3, 4, 5, 1, 0] rfl ?_
      exact ih _ (by omega) (v + 1) _ rfl ⟨by omega, by omega⟩
theorem m_counted {G : jG} (hG : mG G) (S : jMem) (b t a : Int) (hk : mOK S) (hb : 0 ≤ b ∧ b < 8) (ht : 0 ≤ t ∧ t < 6) (ha : 0 ≤ a ∧ a < 3) (hz : ∀ v, 0 ≤ v → v < 142 → S 11 (142 * (3 * b + a) + v) = 0 ∨ S 11 (142 * (3 * b + a) + v) = 1) : jM G yX6_counted cX6_counted 6 (some .int) 2 45 [.ref (jad G 0), .int (iI (b)), .int (iI (t)), .int (iI (a))] S (jPi (fun v S' => isum (fun v => S 11 (142 * (3 * b + a) + v)) 0 (S 1 a - pext (S 2) b t a + 1 - 0).toNat = v ∧ S = S')) := by
  refine jM.of (by decide) (Nat.le_of_ble_eq_true rfl) (fun E C R => ?_)
  show J E G 0 [(0, .ref (jad G 0)), (1, .int (iI (b))), (2, .int (iI (t))), (3, .int (iI (a)))] [] _
  refine J_iconst C dX6_counted_0 ?_
  refine J_istore (lv' := [(4, .int (iI (0))), (0, .ref (jad G 0)), (1, .int (iI (b))), (2, .int (iI (t))), (3, .int (iI (a)))]) C dX6_counted_1 (by decide) rfl ?_
  refine J_iconst C dX6_counted_3 ?_
  refine J_istore (lv' := [(5, .int (iI (0))), (4, .int (iI (0))), (0, .ref (jad G 0)), (1, .int (iI (b))), (2, .int (iI (t))), (3, .int (iI (a)))]) C dX6_counted_4 (by decide) rfl ?_
  refine J_lv [2, 3, 4, 5, 1, 0] rfl ?_
  exact lm_counted hG C S b t a hk hb ht ha hz R _ 0 0 rfl ⟨by omega, by rw [Int.zero_add]⟩
