theorem m_weight {G : jG} (hG : mG G) (S : jMem) (b n : Int) (hk : mOK S) (hb : inR b) (hn0 : inR n) : jM G yX6_weight cX6_weight 4 (some .int) 1 21 [.ref (jad G 0), .int (iI (b)), .int (iI (n))] S (jPi (fun v S' => if (0 ≤ b ∧ b < S 0 1) ∧ (0 ≤ n ∧ n ≤ 1000) then v = S 3 b ∧ S' = up2 S 3 b n else v = -1 ∧ S' = S)) := by
  refine jM.of (by decide) (Nat.le_of_ble_eq_true rfl) (fun E C R => ?_)
  show J E G 0 [(0, .ref (jad G 0)), (1, .int (iI (b))), (2, .int (iI (n)))] [] _
  have hn := hk.1
  refine J_aload_n C 0 dX6_weight_0 rfl ?_
  refine J_iload_n C 1 dX6_weight_1 rfl ?_
  refine J_callV (k := 0) (rest := []) C (m_isBox hG S (b) (by omega) (by omega)) kc_X6_isBox kl_X6_151 (by rw [hG.2]; decide) (by rw [hG.1]; rfl) rfl dX6_weight_2 rfl rfl (by decide) (Nat.le_of_ble_eq_true rfl) (J_ki (fun v1 S1 h1 => ?_))
  obtain ⟨rfl, rfl⟩ := h1
  refine J_if_eq_b C 19 dX6_weight_5 (by decide) (fun h2 => ?_) (fun h2 => ?_)
  · refine J_iconst C dX6_weight_19 ?_
    exact J_iret R C dX6_weight_20 (jPi.mk (by rw [if_neg (by omega)]; exact ⟨rfl, rfl⟩))
  · refine J_iload_n C 2 dX6_weight_8 rfl ?_
    refine J_if_lt C 19 dX6_weight_9 (by decide) (by omega) (fun h3 => ?_) (fun h3 => ?_)
    · refine J_iconst C dX6_weight_19 ?_
      exact J_iret R C dX6_weight_20 (jPi.mk (by rw [if_neg (by omega)]; exact ⟨rfl, rfl⟩))
    · refine J_iload_n C 2 dX6_weight_12 rfl ?_
      refine J_sipush C dX6_weight_13 (by decide) ?_
      refine J_icmp_le C 21 dX6_weight_16 (by decide) (by omega) (by omega) (fun h4 => ?_) (fun h4 => ?_)
      · refine J_aload_n C 0 dX6_weight_21 rfl ?_
        refine g_X6_16 hG C dX6_weight_22 ?_
        refine J_iload_n C 1 dX6_weight_25 rfl ?_
        refine mald hG C 3 8 (by decide) dX6_weight_26 (by omega) (by omega) ?_
        refine J_istore_n (lv' := [(3, .int (iI (S 3 (b)))), (0, .ref (jad G 0)), (1, .int (iI (b))), (2, .int (iI (n)))]) C dX6_weight_27 (by decide) rfl ?_
        refine J_aload_n C 1 dX6_weight_28 rfl ?_
        refine g_X6_16 hG C dX6_weight_29 ?_
        refine J_iload_n C 2 dX6_weight_32 rfl ?_
        refine J_iload_n C 3 dX6_weight_33 rfl ?_
        refine mast hG C 3 8 (by decide) dX6_weight_34 (by omega) (by omega) ?_
        refine J_iload_n C 0 dX6_weight_35 rfl ?_
        exact J_iret R C dX6_weight_36 (jPi.mk (by rw [if_pos (by omega)]; exact ⟨rfl, rfl⟩))
      · refine J_iconst C dX6_weight_19 ?_
        exact J_iret R C dX6_weight_20 (jPi.mk (by rw [if_neg (by omega)]; exact ⟨rfl, rfl⟩))
theorem m_lay {G : jG} (hG : mG G) (S : jMem) (b t x y z : Int) (hk : mOK S) (hl : mlOK S) (hb : inR b) (ht : inR t) (hx : inR x) (hy : inR y) (hz : inR z) : jM G yX6_lay cX6_lay 6 (some .int) 5 113 [.ref (jad G 0), .int (iI (b)), .int (iI (t)), .int (iI (x)), .int (iI (y)), .int (iI (z))] S (jPi (fun v S' => @ite Prop (pplace (S 0 1) (S 1) (S 2) (S 4) b t x y z) (Classical.propDecidable _) (v = movs (layM S b t x y z) ∧ S' = layM S b t x y z) (v = -1 ∧ S' = S))) := by
  refine jM.of (by decide) (Nat.le_of_ble_eq_true rfl) (fun E C R => ?_)
  show J E G 0 [(0, .ref (jad G 0)), (1, .int (iI (b))), (2, .int (iI (t))), (3, .int (iI (x))), (4, .int (iI (y))), (5, .int (iI (z)))] [] _
  have hn := hk.1
  refine J_aload_n C 0 dX6_lay_0 rfl ?_
  refine J_iload_n C 1 dX6_lay_1 rfl ?_
  refine J_iload_n C 2 dX6_lay_2 rfl ?_
  refine J_iload_n C 3 dX6_lay_3 rfl ?_
  refine J_iload C 4 dX6_lay_4 rfl ?_
  refine J_iload C 5 dX6_lay_6 rfl ?_
  refine J_callV (k := 0) (rest := []) C (m_isPlace hG S (b) (t) (x) (y) (z) hk (by omega) (by omega) (by omega) (by omega) (by omega)) kc_X6_isPlace kl_X6_154 (by rw [hG.2]; decide) (by rw [hG.1]; rfl) rfl dX6_lay_8 rfl rfl (by decide) (Nat.le_of_ble_eq_true rfl) (J_ki (fun v1 S1 h1 => ?_))
  obtain ⟨rfl, rfl⟩ := h1
  refine J_if_ne_b C 16 dX6_lay_11 (by decide) (fun h2 => ?_) (fun h2 => ?_)
  · have hpl : pplace (S 0 1) (S 1) (S 2) (S 4) b t x y z := by assumption
    refine J_aload_n C 0 dX6_lay_16 rfl ?_
    refine g_X6_22 hG C dX6_lay_17 ?_
    refine J_iload_n C 1 dX6_lay_20 rfl ?_
    refine J_iload_n C 2 dX6_lay_21 rfl ?_
    refine J_iconst C dX6_lay_22 ?_
    refine J_iadd C dX6_lay_23 ?_
    refine mast hG C 5 8 (by decide) dX6_lay_24 (by omega) (by omega) ?_
    refine J_aload_n C 0 dX6_lay_25 rfl ?_
    refine g_X6_25 hG C dX6_lay_26 ?_
    refine J_iconst C dX6_lay_29 ?_
    refine J_iload_n C 1 dX6_lay_30 rfl ?_
    refine J_imul C dX6_lay_31 ?_
    refine J_iload_n C 3 dX6_lay_32 rfl ?_
    refine mast hG C 6 24 (by decide) dX6_lay_33 (by omega) (by omega) ?_
    refine J_aload_n C 0 dX6_lay_34 rfl ?_
    refine g_X6_25 hG C dX6_lay_35 ?_
    refine J_iconst C dX6_lay_38 ?_
    refine J_iload_n C 1 dX6_lay_39 rfl ?_
    refine J_imul C dX6_lay_40 ?_
    refine J_iconst C dX6_lay_41 ?_
    refine J_iadd C dX6_lay_42 ?_
    refine J_iload C 4 dX6_lay_43 rfl ?_
    refine mast hG C 6 24 (by decide) dX6_lay_45 (by omega) (by omega) ?_
    refine J_aload_n C 0 dX6_lay_46 rfl ?_
    refine g_X6_25 hG C dX6_lay_47 ?_
    refine J_iconst C dX6_lay_50 ?_
    refine J_iload_n C 1 dX6_lay_51 rfl ?_
    refine J_imul C dX6_lay_52 ?_
    refine J_iconst C dX6_lay_53 ?_
    refine J_iadd C dX6_lay_54 ?_
    refine J_iload C 5 dX6_lay_55 rfl ?_
    refine mast hG C 6 24 (by decide) dX6_lay_57 (by omega) (by omega) ?_
    refine J_aload_n C 0 dX6_lay_58 rfl ?_
    refine J_callV (k := 0) (rest := []) C (m_overlaps hG (up2 (up2 (up2 (up2 S 5 (b) ((t) + (1))) 6 ((3) * (b)) (x)) 6 (((3) * (b)) + (1)) (y)) 6 (((3) * (b)) + (2)) (z)) hk (layM_ok hk hl (by assumption))) kc_X6_overlaps kl_X6_158 (by rw [hG.2]; decide) (by rw [hG.1]; rfl) rfl dX6_lay_59 rfl rfl (by decide) (Nat.le_of_ble_eq_true rfl) (J_ki (fun v3 S3 h3 => ?_))
    obtain ⟨rfl, rfl⟩ := h3
    exact J_iret R C dX6_lay_62 (jPi.mk (by rw [if_pos (by assumption)]; exact ⟨rfl, rfl⟩))
  · refine J_iconst C dX6_lay_14 ?_
    exact J_iret R C dX6_lay_15 (jPi.mk (by rw [if_neg (by assumption)]; exact ⟨rfl, rfl⟩))
theorem lm_poss {E : jEnv} {G : jG} (hG : mG G) (C : jX E G cX6_isPossible 12 RX6 2 45) (S : jMem) (o b t x y z : Int) (hk : mOK S) (ho : 0 ≤ o ∧ o < 8) (hb : 0 ≤ b ∧ b < 8) (ht : 0 ≤ t ∧ t < 6) (hx : 0 ≤ x ∧ x ≤ 20) (hy : 0 ≤ y ∧ y ≤ 20) (hz : 0 ≤ z ∧ z ≤ 20) (R : jR E G (some .boolean) (jPi (fun v S' => bb (proom (S 1) (S 2) (S 4) o b t x y z) = v ∧ S = S'))) : ∀ (mm : Nat) (d u : Int), mm = (6 - u).toNat → ((0 ≤ u ∧ u ≤ 6) ∧ (d = 0 ∨ d = 1) ∧ (d = 1 ↔ anyB (fun v => (phas (S 4) o v ∧ pshort (S 1) (S 2) o v) ∧ pbeside (S 1) (S 2) o v b t x y z) u)) → J E G 6 [(0, .ref (jad G 0)), (1, .int (iI (o))), (2, .int (iI (b))), (3, .int (iI (t))), (4, .int (iI (x))), (5, .int (iI (y))), (6, .int (iI (z))), (7, .int (iI (d))), (8, .int (iI (u)))] [] S := by
  intro mm
  induction mm using Nat.strongRecOn with | ind mm ih => ?_
  intro d u hm hi
  obtain ⟨hu, hA, hB⟩ := hi
  have hn := hk.1
  have l0 := hk.2.1 0 (by omega) (by omega)
  have l1 := hk.2.1 1 (by omega) (by omega)
  have l2 := hk.2.1 2 (by omega) (by omega)
  refine J_iload C 8 dX6_isPossible_6 rfl ?_
  refine J_bipush C dX6_isPossible_8 (by decide) ?_
  refine J_icmp_ge C 174 dX6_isPossible_10 (by decide) (by omega) (by omega) (fun h1 => ?_) (fun h1 => ?_)
  · refine J_iload C 7 dX6_isPossible_174 rfl ?_
    refine J_zret R C dX6_isPossible_176 hA (jPi.mk ⟨?_, rfl⟩)
    have e6 : u = 6 := by omega
    rw [e6] at hB
    rcases hA with rfl | rfl
    · exact bb_f (fun h => by obtain ⟨v, v1, v2⟩ := proom_iff.mp h; have := hB.mpr ⟨v, v1, v2⟩; omega)
    · exact bb_t (proom_iff.mpr (hB.mp rfl))
  · refine J_aload_n C 0 dX6_isPossible_13 rfl ?_
    refine J_iload_n C 1 dX6_isPossible_14 rfl ?_
    refine J_iload C 8 dX6_isPossible_15 rfl ?_
    refine J_callV (k := 0) (rest := []) C (m_has hG S (o) (u) hk (by omega) (by omega)) kc_X6_has kl_X6_118 (by rw [hG.2]; decide) (by rw [hG.1]; rfl) rfl dX6_isPossible_17 rfl rfl (by decide) (Nat.le_of_ble_eq_true rfl) (J_ki (fun v2 S2 h2 => ?_))
    obtain ⟨rfl, rfl⟩ := h2
    refine J_if_eq_b C 168 dX6_isPossible_20 (by decide) (fun h3 => ?_) (fun h3 => ?_)
    · refine J_iinc (lv' := [(8, .int (iI (u + 1))), (0, .ref (jad G 0)), (1, .int (iI (o))), (2, .int (iI (b))), (3, .int (iI (t))), (4, .int (iI (x))), (5, .int (iI (y))), (6, .int (iI (z))), (7, .int (iI (d)))]) C 8 dX6_isPossible_168 rfl (by decide) rfl ?_
      refine J_goto C 6 dX6_isPossible_171 (by decide) ?_
      refine J_lv [1, 2, 3, 4, 5, 6, 7, 8, 0] rfl ?_
      exact ih _ (by omega) d (u + 1) rfl ⟨by omega, hA, flag_d hB hu.1 (fun v3 => by have v4 := v3.1.1; have v5 := v3.1.2; omega)⟩
    · refine J_aload_n C 0 dX6_isPossible_23 rfl ?_
      refine J_iload_n C 1 dX6_isPossible_24 rfl ?_
      refine J_iload C 8 dX6_isPossible_25 rfl ?_
      refine J_iconst C dX6_isPossible_27 ?_
      refine J_callV (k := 0) (rest := []) C (m_extent hG S (o) (u) (0) (by omega) (by omega) (by omega)) kc_X6_extent kl_X6_121 (by rw [hG.2]; decide) (by rw [hG.1]; rfl) rfl dX6_isPossible_28 rfl rfl (by decide) (Nat.le_of_ble_eq_true rfl) (J_ki (fun v4 S4 h4 => ?_))
      obtain ⟨rfl, rfl⟩ := h4
      have q1 := pext_in hk (b := o) (t := u) (a := 0) (by omega) (by omega)
      refine J_aload_n C 0 dX6_isPossible_31 rfl ?_
      refine g_X6_7 hG C dX6_isPossible_32 ?_
      refine J_iconst C dX6_isPossible_35 ?_
      refine mald hG C 1 3 (by decide) dX6_isPossible_36 (by omega) (by omega) ?_
      refine J_icmp_gt C 168 dX6_isPossible_37 (by decide) (by omega) (by omega) (fun h5 => ?_) (fun h5 => ?_)
      · refine J_iinc (lv' := [(8, .int (iI (u + 1))), (0, .ref (jad G 0)), (1, .int (iI (o))), (2, .int (iI (b))), (3, .int (iI (t))), (4, .int (iI (x))), (5, .int (iI (y))), (6, .int (iI (z))), (7, .int (iI (d)))]) C 8 dX6_isPossible_168 rfl (by decide) rfl ?_
        refine J_goto C 6 dX6_isPossible_171 (by decide) ?_
        refine J_lv [1, 2, 3, 4, 5, 6, 7, 8, 0] rfl ?_
        exact ih _ (by omega) d (u + 1) rfl ⟨by omega, hA, flag_d hB hu.1 (fun v3 => by have v4 := v3.1.1; have v5 := v3.1.2; omega)⟩
      · refine J_aload_n C 0 dX6_isPossible_40 rfl ?_
        refine J_iload_n C 1 dX6_isPossible_41 rfl ?_
        refine J_iload C 8 dX6_isPossible_42 rfl ?_
        refine J_iconst C dX6_isPossible_44 ?_
        refine J_callV (k := 0) (rest := []) C (m_extent hG S (o) (u) (1) (by omega) (by omega) (by omega)) kc_X6_extent kl_X6_121 (by rw [hG.2]; decide) (by rw [hG.1]; rfl) rfl dX6_isPossible_45 rfl rfl (by decide) (Nat.le_of_ble_eq_true rfl) (J_ki (fun v6 S6 h6 => ?_))
        obtain ⟨rfl, rfl⟩ := h6
        have q2 := pext_in hk (b := o) (t := u) (a := 1) (by omega) (by omega)
        refine J_aload_n C 0 dX6_isPossible_48 rfl ?_
        refine g_X6_7 hG C dX6_isPossible_49 ?_
        refine J_iconst C dX6_isPossible_52 ?_
        refine mald hG C 1 3 (by decide) dX6_isPossible_53 (by omega) (by omega) ?_
        refine J_icmp_gt C 168 dX6_isPossible_54 (by decide) (by omega) (by omega) (fun h7 => ?_) (fun h7 => ?_)
        · refine J_iinc (lv' := [(8, .int (iI (u + 1))), (0, .ref (jad G 0)), (1, .int (iI (o))), (2, .int (iI (b))), (3, .int (iI (t))), (4, .int (iI (x))), (5, .int (iI (y))), (6, .int (iI (z))), (7, .int (iI (d)))]) C 8 dX6_isPossible_168 rfl (by decide) rfl ?_
          refine J_goto C 6 dX6_isPossible_171 (by decide) ?_
          refine J_lv [1, 2, 3, 4, 5, 6, 7, 8, 0] rfl ?_
          exact ih _ (by omega) d (u + 1) rfl ⟨by omega, hA, flag_d hB hu.1 (fun v3 => by have v4 := v3.1.1; have v5 := v3.1.2; omega)⟩
        · refine J_aload_n C 0 dX6_isPossible_57 rfl ?_
          refine J_iload_n C 1 dX6_isPossible_58 rfl ?_
          refine J_iload C 8 dX6_isPossible_59 rfl ?_
          refine J_iconst C dX6_isPossible_61 ?_
          refine J_callV (k := 0) (rest := []) C (m_extent hG S (o) (u) (2) (by omega) (by omega) (by omega)) kc_X6_extent kl_X6_121 (by rw [hG.2]; decide) (by rw [hG.1]; rfl) rfl dX6_isPossible_62 rfl rfl (by decide) (Nat.le_of_ble_eq_true rfl) (J_ki (fun v8 S8 h8 => ?_))
          obtain ⟨rfl, rfl⟩ := h8
          have q3 := pext_in hk (b := o) (t := u) (a := 2) (by omega) (by omega)
          refine J_aload_n C 0 dX6_isPossible_65 rfl ?_
          refine g_X6_7 hG C dX6_isPossible_66 ?_
          refine J_iconst C dX6_isPossible_69 ?_
          refine mald hG C 1 3 (by decide) dX6_isPossible_70 (by omega) (by omega) ?_
          refine J_icmp_gt C 168 dX6_isPossible_71 (by decide) (by omega) (by omega) (fun h9 => ?_) (fun h9 => ?_)
          · refine J_iinc (lv' := [(8, .int (iI (u + 1))), (0, .ref (jad G 0)), (1, .int (iI (o))), (2, .int (iI (b))), (3, .int (iI (t))), (4, .int (iI (x))), (5, .int (iI (y))), (6, .int (iI (z))), (7, .int (iI (d)))]) C 8 dX6_isPossible_168 rfl (by decide) rfl ?_
            refine J_goto C 6 dX6_isPossible_171 (by decide) ?_
            refine J_lv [1, 2, 3, 4, 5, 6, 7, 8, 0] rfl ?_
            exact ih _ (by omega) d (u + 1) rfl ⟨by omega, hA, flag_d hB hu.1 (fun v3 => by have v4 := v3.1.1; have v5 := v3.1.2; omega)⟩
          · refine J_iconst C dX6_isPossible_74 ?_
            refine J_istore (lv' := [(9, .int (iI (0))), (0, .ref (jad G 0)), (1, .int (iI (o))), (2, .int (iI (b))), (3, .int (iI (t))), (4, .int (iI (x))), (5, .int (iI (y))), (6, .int (iI (z))), (7, .int (iI (d))), (8, .int (iI (u)))]) C dX6_isPossible_75 (by decide) rfl ?_
            refine J_iload C 0 dX6_isPossible_77 rfl ?_
            refine J_iconst C dX6_isPossible_79 ?_
            refine J_icmp_ge C 168 dX6_isPossible_80 (by decide) (by omega) (by omega) (fun h => absurd h (by omega)) (fun _ => ?_)
            refine J_iload C 0 dX6_isPossible_83 rfl ?_
            refine J_if_ne C 93 dX6_isPossible_85 (by decide) (by omega) (fun h => absurd h (by omega)) (fun _ => ?_)
            refine J_iload C 5 dX6_isPossible_88 rfl ?_
            refine J_goto C 106 dX6_isPossible_90 (by decide) ?_
            refine J_istore (lv' := [(10, .int (iI (x))), (9, .int (iI (0))), (0, .ref (jad G 0)), (1, .int (iI (o))), (2, .int (iI (b))), (3, .int (iI (t))), (4, .int (iI (x))), (5, .int (iI (y))), (6, .int (iI (z))), (7, .int (iI (d))), (8, .int (iI (u)))]) C dX6_isPossible_106 (by decide) rfl ?_
            refine J_aload_n C 2 dX6_isPossible_108 rfl ?_
            refine J_iload_n C 3 dX6_isPossible_109 rfl ?_
            refine J_iload C 10 dX6_isPossible_110 rfl ?_
            refine J_iload C 1 dX6_isPossible_112 rfl ?_
            refine J_callV (k := 0) (rest := []) C (m_extent hG S (o) (u) (0) (by omega) (by omega) (by omega)) kc_X6_extent kl_X6_121 (by rw [hG.2]; decide) (by rw [hG.1]; rfl) rfl dX6_isPossible_114 rfl rfl (by decide) (Nat.le_of_ble_eq_true rfl) (J_ki (fun v12 S12 h12 => ?_))
            obtain ⟨rfl, rfl⟩ := h12
            have q4 := pext_in hk (b := o) (t := u) (a := 0) (by omega) (by omega)
            refine J_istore (lv' := [(11, .int (iI (pext (S 2) (o) (u) (0)))), (10, .int (iI (x))), (9, .int (iI (0))), (0, .ref (jad G 0)), (1, .int (iI (o))), (2, .int (iI (b))), (3, .int (iI (t))), (4, .int (iI (x))), (5, .int (iI (y))), (6, .int (iI (z))), (7, .int (iI (d))), (8, .int (iI (u)))]) C dX6_isPossible_117 (by decide) rfl ?_
            refine J_iload C 10 dX6_isPossible_119 rfl ?_
            refine J_if_ne C 155 dX6_isPossible_121 (by decide) (by omega) (fun h13 => ?_) (fun h13 => ?_)
            · refine J_iconst C dX6_isPossible_155 ?_
              refine J_goto C 160 dX6_isPossible_156 (by decide) ?_
              refine J_istore (lv' := [(7, .int (iI (1))), (11, .int (iI (pext (S 2) (o) (u) (0)))), (10, .int (iI (x))), (9, .int (iI (0))), (0, .ref (jad G 0)), (1, .int (iI (o))), (2, .int (iI (b))), (3, .int (iI (t))), (4, .int (iI (x))), (5, .int (iI (y))), (6, .int (iI (z))), (8, .int (iI (u)))]) C dX6_isPossible_160 (by decide) rfl ?_
              refine J_iinc (lv' := [(9, .int (iI (1))), (7, .int (iI (1))), (11, .int (iI (pext (S 2) (o) (u) (0)))), (10, .int (iI (x))), (0, .ref (jad G 0)), (1, .int (iI (o))), (2, .int (iI (b))), (3, .int (iI (t))), (4, .int (iI (x))), (5, .int (iI (y))), (6, .int (iI (z))), (8, .int (iI (u)))]) C 3 dX6_isPossible_162 rfl (by decide) rfl ?_
              refine J_goto C 77 dX6_isPossible_165 (by decide) ?_
              refine J_iload C 0 dX6_isPossible_77 rfl ?_
              refine J_iconst C dX6_isPossible_79 ?_
              refine J_icmp_ge C 168 dX6_isPossible_80 (by decide) (by omega) (by omega) (fun h => absurd h (by omega)) (fun _ => ?_)
              refine J_iload C 0 dX6_isPossible_83 rfl ?_
              refine J_if_ne C 93 dX6_isPossible_85 (by decide) (by omega) (fun _ => ?_) (fun h => absurd h (by omega))
              refine J_iload C 0 dX6_isPossible_93 rfl ?_
              refine J_iconst C dX6_isPossible_95 ?_
              refine J_icmp_ne C 104 dX6_isPossible_96 (by decide) (by omega) (by omega) (fun h => absurd h (by omega)) (fun _ => ?_)
              refine J_iload C 9 dX6_isPossible_99 rfl ?_
              refine J_goto C 106 dX6_isPossible_101 (by decide) ?_
              refine J_istore (lv' := [(10, .int (iI (y))), (9, .int (iI (1))), (7, .int (iI (1))), (11, .int (iI (pext (S 2) (o) (u) (0)))), (0, .ref (jad G 0)), (1, .int (iI (o))), (2, .int (iI (b))), (3, .int (iI (t))), (4, .int (iI (x))), (5, .int (iI (y))), (6, .int (iI (z))), (8, .int (iI (u)))]) C dX6_isPossible_106 (by decide) rfl ?_
              refine J_aload_n C 4 dX6_isPossible_108 rfl ?_
              refine J_iload_n C 5 dX6_isPossible_109 rfl ?_
              refine J_iload C 11 dX6_isPossible_110 rfl ?_
              refine J_iload C 1 dX6_isPossible_112 rfl ?_
              refine J_callV (k := 0) (rest := []) C (m_extent hG S (o) (u) (1) (by omega) (by omega) (by omega)) kc_X6_extent kl_X6_121 (by rw [hG.2]; decide) (by rw [hG.1]; rfl) rfl dX6_isPossible_114 rfl rfl (by decide) (Nat.le_of_ble_eq_true rfl) (J_ki (fun v17 S17 h17 => ?_))
              obtain ⟨rfl, rfl⟩ := h17
              have q5 := pext_in hk (b := o) (t := u) (a := 1) (by omega) (by omega)
              refine J_istore (lv' := [(11, .int (iI (pext (S 2) (o) (u) (1)))), (10, .int (iI (y))), (9, .int (iI (1))), (7, .int (iI (1))), (0, .ref (jad G 0)), (1, .int (iI (o))), (2, .int (iI (b))), (3, .int (iI (t))), (4, .int (iI (x))), (5, .int (iI (y))), (6, .int (iI (z))), (8, .int (iI (u)))]) C dX6_isPossible_117 (by decide) rfl ?_
              refine J_iload C 3 dX6_isPossible_119 rfl ?_
              refine J_if_ne C 155 dX6_isPossible_121 (by decide) (by omega) (fun _ => ?_) (fun h => absurd h (by omega))
              refine J_iconst C dX6_isPossible_155 ?_
              refine J_goto C 160 dX6_isPossible_156 (by decide) ?_
              refine J_istore (lv' := [(7, .int (iI (1))), (11, .int (iI (pext (S 2) (o) (u) (1)))), (10, .int (iI (y))), (9, .int (iI (1))), (0, .ref (jad G 0)), (1, .int (iI (o))), (2, .int (iI (b))), (3, .int (iI (t))), (4, .int (iI (x))), (5, .int (iI (y))), (6, .int (iI (z))), (8, .int (iI (u)))]) C dX6_isPossible_160 (by decide) rfl ?_
              refine J_iinc (lv' := [(9, .int (iI (2))), (7, .int (iI (1))), (11, .int (iI (pext (S 2) (o) (u) (1)))), (10, .int (iI (y))), (0, .ref (jad G 0)), (1, .int (iI (o))), (2, .int (iI (b))), (3, .int (iI (t))), (4, .int (iI (x))), (5, .int (iI (y))), (6, .int (iI (z))), (8, .int (iI (u)))]) C 3 dX6_isPossible_162 rfl (by decide) rfl ?_
              refine J_goto C 77 dX6_isPossible_165 (by decide) ?_
              refine J_iload C 0 dX6_isPossible_77 rfl ?_
              refine J_iconst C dX6_isPossible_79 ?_
              refine J_icmp_ge C 168 dX6_isPossible_80 (by decide) (by omega) (by omega) (fun h => absurd h (by omega)) (fun _ => ?_)
              refine J_iload C 0 dX6_isPossible_83 rfl ?_
              refine J_if_ne C 93 dX6_isPossible_85 (by decide) (by omega) (fun _ => ?_) (fun h => absurd h (by omega))
              refine J_iload C 0 dX6_isPossible_93 rfl ?_
              refine J_iconst C dX6_isPossible_95 ?_
              refine J_icmp_ne C 104 dX6_isPossible_96 (by decide) (by omega) (by omega) (fun _ => ?_) (fun h => absurd h (by omega))
              refine J_iload C 10 dX6_isPossible_104 rfl ?_
              refine J_istore (lv' := [(10, .int (iI (z))), (9, .int (iI (2))), (7, .int (iI (1))), (11, .int (iI (pext (S 2) (o) (u) (1)))), (0, .ref (jad G 0)), (1, .int (iI (o))), (2, .int (iI (b))), (3, .int (iI (t))), (4, .int (iI (x))), (5, .int (iI (y))), (6, .int (iI (z))), (8, .int (iI (u)))]) C dX6_isPossible_106 (by decide) rfl ?_
              refine J_aload_n C 4 dX6_isPossible_108 rfl ?_
              refine J_iload_n C 5 dX6_isPossible_109 rfl ?_
              refine J_iload C 11 dX6_isPossible_110 rfl ?_
              refine J_iload C 1 dX6_isPossible_112 rfl ?_
              refine J_callV (k := 0) (rest := []) C (m_extent hG S (o) (u) (2) (by omega) (by omega) (by omega)) kc_X6_extent kl_X6_121 (by rw [hG.2]; decide) (by rw [hG.1]; rfl) rfl dX6_isPossible_114 rfl rfl (by decide) (Nat.le_of_ble_eq_true rfl) (J_ki (fun v22 S22 h22 => ?_))
              obtain ⟨rfl, rfl⟩ := h22
              have q6 := pext_in hk (b := o) (t := u) (a := 2) (by omega) (by omega)
              refine J_istore (lv' := [(11, .int (iI (pext (S 2) (o) (u) (2)))), (10, .int (iI (z))), (9, .int (iI (2))), (7, .int (iI (1))), (0, .ref (jad G 0)), (1, .int (iI (o))), (2, .int (iI (b))), (3, .int (iI (t))), (4, .int (iI (x))), (5, .int (iI (y))), (6, .int (iI (z))), (8, .int (iI (u)))]) C dX6_isPossible_117 (by decide) rfl ?_
              refine J_iload C 3 dX6_isPossible_119 rfl ?_
              refine J_if_ne C 155 dX6_isPossible_121 (by decide) (by omega) (fun _ => ?_) (fun h => absurd h (by omega))
              refine J_iconst C dX6_isPossible_155 ?_
              refine J_goto C 160 dX6_isPossible_156 (by decide) ?_
              refine J_istore (lv' := [(7, .int (iI (1))), (11, .int (iI (pext (S 2) (o) (u) (2)))), (10, .int (iI (z))), (9, .int (iI (2))), (0, .ref (jad G 0)), (1, .int (iI (o))), (2, .int (iI (b))), (3, .int (iI (t))), (4, .int (iI (x))), (5, .int (iI (y))), (6, .int (iI (z))), (8, .int (iI (u)))]) C dX6_isPossible_160 (by decide) rfl ?_
              refine J_iinc (lv' := [(9, .int (iI (3))), (7, .int (iI (1))), (11, .int (iI (pext (S 2) (o) (u) (2)))), (10, .int (iI (z))), (0, .ref (jad G 0)), (1, .int (iI (o))), (2, .int (iI (b))), (3, .int (iI (t))), (4, .int (iI (x))), (5, .int (iI (y))), (6, .int (iI (z))), (8, .int (iI (u)))]) C 3 dX6_isPossible_162 rfl (by decide) rfl ?_
              refine J_goto C 77 dX6_isPossible_165 (by decide) ?_
              refine J_iload C 0 dX6_isPossible_77 rfl ?_
              refine J_iconst C dX6_isPossible_79 ?_
              refine J_icmp_ge C 168 dX6_isPossible_80 (by decide) (by omega) (by omega) (fun _ => ?_) (fun h => absurd h (by omega))
              refine J_iinc (lv' := [(8, .int (iI (u + 1))), (9, .int (iI (3))), (7, .int (iI (1))), (11, .int (iI (pext (S 2) (o) (u) (2)))), (10, .int (iI (z))), (0, .ref (jad G 0)), (1, .int (iI (o))), (2, .int (iI (b))), (3, .int (iI (t))), (4, .int (iI (x))), (5, .int (iI (y))), (6, .int (iI (z)))]) C 11 dX6_isPossible_168 rfl (by decide) rfl ?_
              refine J_goto C 6 dX6_isPossible_171 (by decide) ?_
              refine J_lv [5, 6, 7, 8, 9, 10, 11, 2, 0] rfl ?_
              refine ih _ (by omega) 1 (u + 1) rfl ⟨by omega, Or.inr rfl, flag_1 hB hu.1 ?_⟩
              by_cases hd : d = 1
              · exact Or.inl hd
              · exact Or.inr ⟨⟨by omega, by omega⟩, by omega⟩
            · refine J_iload C 0 dX6_isPossible_124 rfl ?_
              refine J_iload C 1 dX6_isPossible_126 rfl ?_
              refine J_icmp_le C 155 dX6_isPossible_128 (by decide) (by omega) (by omega) (fun h25 => ?_) (fun h25 => ?_)
              · refine J_iconst C dX6_isPossible_155 ?_
                refine J_goto C 160 dX6_isPossible_156 (by decide) ?_
                refine J_istore (lv' := [(7, .int (iI (1))), (11, .int (iI (pext (S 2) (o) (u) (0)))), (10, .int (iI (x))), (9, .int (iI (0))), (0, .ref (jad G 0)), (1, .int (iI (o))), (2, .int (iI (b))), (3, .int (iI (t))), (4, .int (iI (x))), (5, .int (iI (y))), (6, .int (iI (z))), (8, .int (iI (u)))]) C dX6_isPossible_160 (by decide) rfl ?_
                refine J_iinc (lv' := [(9, .int (iI (1))), (7, .int (iI (1))), (11, .int (iI (pext (S 2) (o) (u) (0)))), (10, .int (iI (x))), (0, .ref (jad G 0)), (1, .int (iI (o))), (2, .int (iI (b))), (3, .int (iI (t))), (4, .int (iI (x))), (5, .int (iI (y))), (6, .int (iI (z))), (8, .int (iI (u)))]) C 3 dX6_isPossible_162 rfl (by decide) rfl ?_
                refine J_goto C 77 dX6_isPossible_165 (by decide) ?_
                refine J_iload C 0 dX6_isPossible_77 rfl ?_
                refine J_iconst C dX6_isPossible_79 ?_
                refine J_icmp_ge C 168 dX6_isPossible_80 (by decide) (by omega) (by omega) (fun h => absurd h (by omega)) (fun _ => ?_)
                refine J_iload C 0 dX6_isPossible_83 rfl ?_
                refine J_if_ne C 93 dX6_isPossible_85 (by decide) (by omega) (fun _ => ?_) (fun h => absurd h (by omega))
                refine J_iload C 0 dX6_isPossible_93 rfl ?_
                refine J_iconst C dX6_isPossible_95 ?_
                refine J_icmp_ne C 104 dX6_isPossible_96 (by decide) (by omega) (by omega) (fun h => absurd h (by omega)) (fun _ => ?_)
                refine J_iload C 9 dX6_isPossible_99 rfl ?_
                refine J_goto C 106 dX6_isPossible_101 (by decide) ?_
                refine J_istore (lv' := [(10, .int (iI (y))), (9, .int (iI (1))), (7, .int (iI (1))), (11, .int (iI (pext (S 2) (o) (u) (0)))), (0, .ref (jad G 0)), (1, .int (iI (o))), (2, .int (iI (b))), (3, .int (iI (t))), (4, .int (iI (x))), (5, .int (iI (y))), (6, .int (iI (z))), (8, .int (iI (u)))]) C dX6_isPossible_106 (by decide) rfl ?_
                refine J_aload_n C 4 dX6_isPossible_108 rfl ?_
                refine J_iload_n C 5 dX6_isPossible_109 rfl ?_
                refine J_iload C 11 dX6_isPossible_110 rfl ?_
                refine J_iload C 1 dX6_isPossible_112 rfl ?_
                refine J_callV (k := 0) (rest := []) C (m_extent hG S (o) (u) (1) (by omega) (by omega) (by omega)) kc_X6_extent kl_X6_121 (by rw [hG.2]; decide) (by rw [hG.1]; rfl) rfl dX6_isPossible_114 rfl rfl (by decide) (Nat.le_of_ble_eq_true rfl) (J_ki (fun v29 S29 h29 => ?_))
                obtain ⟨rfl, rfl⟩ := h29
                have q7 := pext_in hk (b := o) (t := u) (a := 1) (by omega) (by omega)
                refine J_istore (lv' := [(11, .int (iI (pext (S 2) (o) (u) (1)))), (10, .int (iI (y))), (9, .int (iI (1))), (7, .int (iI (1))), (0, .ref (jad G 0)), (1, .int (iI (o))), (2, .int (iI (b))), (3, .int (iI (t))), (4, .int (iI (x))), (5, .int (iI (y))), (6, .int (iI (z))), (8, .int (iI (u)))]) C dX6_isPossible_117 (by decide) rfl ?_
                refine J_iload C 3 dX6_isPossible_119 rfl ?_
                refine J_if_ne C 155 dX6_isPossible_121 (by decide) (by omega) (fun _ => ?_) (fun h => absurd h (by omega))
                refine J_iconst C dX6_isPossible_155 ?_
                refine J_goto C 160 dX6_isPossible_156 (by decide) ?_
                refine J_istore (lv' := [(7, .int (iI (1))), (11, .int (iI (pext (S 2) (o) (u) (1)))), (10, .int (iI (y))), (9, .int (iI (1))), (0, .ref (jad G 0)), (1, .int (iI (o))), (2, .int (iI (b))), (3, .int (iI (t))), (4, .int (iI (x))), (5, .int (iI (y))), (6, .int (iI (z))), (8, .int (iI (u)))]) C dX6_isPossible_160 (by decide) rfl ?_
                refine J_iinc (lv' := [(9, .int (iI (2))), (7, .int (iI (1))), (11, .int (iI (pext (S 2) (o) (u) (1)))), (10, .int (iI (y))), (0, .ref (jad G 0)), (1, .int (iI (o))), (2, .int (iI (b))), (3, .int (iI (t))), (4, .int (iI (x))), (5, .int (iI (y))), (6, .int (iI (z))), (8, .int (iI (u)))]) C 3 dX6_isPossible_162 rfl (by decide) rfl ?_
                refine J_goto C 77 dX6_isPossible_165 (by decide) ?_
                refine J_iload C 0 dX6_isPossible_77 rfl ?_
                refine J_iconst C dX6_isPossible_79 ?_
                refine J_icmp_ge C 168 dX6_isPossible_80 (by decide) (by omega) (by omega) (fun h => absurd h (by omega)) (fun _ => ?_)
                refine J_iload C 0 dX6_isPossible_83 rfl ?_
                refine J_if_ne C 93 dX6_isPossible_85 (by decide) (by omega) (fun _ => ?_) (fun h => absurd h (by omega))
                refine J_iload C 0 dX6_isPossible_93 rfl ?_
                refine J_iconst C dX6_isPossible_95 ?_
                refine J_icmp_ne C 104 dX6_isPossible_96 (by decide) (by omega) (by omega) (fun _ => ?_) (fun h => absurd h (by omega))
                refine J_iload C 10 dX6_isPossible_104 rfl ?_
                refine J_istore (lv' := [(10, .int (iI (z))), (9, .int (iI (2))), (7, .int (iI (1))), (11, .int (iI (pext (S 2) (o) (u) (1)))), (0, .ref (jad G 0)), (1, .int (iI (o))), (2, .int (iI (b))), (3, .int (iI (t))), (4, .int (iI (x))), (5, .int (iI (y))), (6, .int (iI (z))), (8, .int (iI (u)))]) C dX6_isPossible_106 (by decide) rfl ?_
                refine J_aload_n C 4 dX6_isPossible_108 rfl ?_
                refine J_iload_n C 5 dX6_isPossible_109 rfl ?_
                refine J_iload C 11 dX6_isPossible_110 rfl ?_
                refine J_iload C 1 dX6_isPossible_112 rfl ?_
                refine J_callV (k := 0) (rest := []) C (m_extent hG S (o) (u) (2) (by omega) (by omega) (by omega)) kc_X6_extent kl_X6_121 (by rw [hG.2]; decide) (by rw [hG.1]; rfl) rfl dX6_isPossible_114 rfl rfl (by decide) (Nat.le_of_ble_eq_true rfl) (J_ki (fun v34 S34 h34 => ?_))
                obtain ⟨rfl, rfl⟩ := h34
                have q8 := pext_in hk (b := o) (t := u) (a := 2) (by omega) (by omega)
                refine J_istore (lv' := [(11, .int (iI (pext (S 2) (o) (u) (2)))), (10, .int (iI (z))), (9, .int (iI (2))), (7, .int (iI (1))), (0, .ref (jad G 0)), (1, .int (iI (o))), (2, .int (iI (b))), (3, .int (iI (t))), (4, .int (iI (x))), (5, .int (iI (y))), (6, .int (iI (z))), (8, .int (iI (u)))]) C dX6_isPossible_117 (by decide) rfl ?_
                refine J_iload C 3 dX6_isPossible_119 rfl ?_
                refine J_if_ne C 155 dX6_isPossible_121 (by decide) (by omega) (fun _ => ?_) (fun h => absurd h (by omega))
                refine J_iconst C dX6_isPossible_155 ?_
                refine J_goto C 160 dX6_isPossible_156 (by decide) ?_
                refine J_istore (lv' := [(7, .int (iI (1))), (11, .int (iI (pext (S 2) (o) (u) (2)))), (10, .int (iI (z))), (9, .int (iI (2))), (0, .ref (jad G 0)), (1, .int (iI (o))), (2, .int (iI (b))), (3, .int (iI (t))), (4, .int (iI (x))), (5, .int (iI (y))), (6, .int (iI (z))), (8, .int (iI (u)))]) C dX6_isPossible_160 (by decide) rfl ?_
                refine J_iinc (lv' := [(9, .int (iI (3))), (7, .int (iI (1))), (11, .int (iI (pext (S 2) (o) (u) (2)))), (10, .int (iI (z))), (0, .ref (jad G 0)), (1, .int (iI (o))), (2, .int (iI (b))), (3, .int (iI (t))), (4, .int (iI (x))), (5, .int (iI (y))), (6, .int (iI (z))), (8, .int (iI (u)))]) C 3 dX6_isPossible_162 rfl (by decide) rfl ?_
                refine J_goto C 77 dX6_isPossible_165 (by decide) ?_
                refine J_iload C 0 dX6_isPossible_77 rfl ?_
                refine J_iconst C dX6_isPossible_79 ?_
                refine J_icmp_ge C 168 dX6_isPossible_80 (by decide) (by omega) (by omega) (fun _ => ?_) (fun h => absurd h (by omega))
                refine J_iinc (lv' := [(8, .int (iI (u + 1))), (9, .int (iI (3))), (7, .int (iI (1))), (11, .int (iI (pext (S 2) (o) (u) (2)))), (10, .int (iI (z))), (0, .ref (jad G 0)), (1, .int (iI (o))), (2, .int (iI (b))), (3, .int (iI (t))), (4, .int (iI (x))), (5, .int (iI (y))), (6, .int (iI (z)))]) C 11 dX6_isPossible_168 rfl (by decide) rfl ?_
                refine J_goto C 6 dX6_isPossible_171 (by decide) ?_
                refine J_lv [5, 6, 7, 8, 9, 10, 11, 2, 0] rfl ?_
                refine ih _ (by omega) 1 (u + 1) rfl ⟨by omega, Or.inr rfl, flag_1 hB hu.1 ?_⟩
                by_cases hd : d = 1
                · exact Or.inl hd
                · exact Or.inr ⟨⟨by omega, by omega⟩, by omega⟩
              · refine J_iload C 1 dX6_isPossible_131 rfl ?_
                refine J_aload_n C 3 dX6_isPossible_133 rfl ?_
                refine J_iload_n C 5 dX6_isPossible_134 rfl ?_
                refine J_iload_n C 6 dX6_isPossible_135 rfl ?_
                refine J_iload C 2 dX6_isPossible_136 rfl ?_
                refine J_callV (k := 0) (rest := [.int (iI (x))]) C (m_extent hG S (b) (t) (0) (by omega) (by omega) (by omega)) kc_X6_extent kl_X6_121 (by rw [hG.2]; decide) (by rw [hG.1]; rfl) rfl dX6_isPossible_138 rfl rfl (by decide) (Nat.le_of_ble_eq_true rfl) (J_ki (fun v37 S37 h37 => ?_))
                obtain ⟨rfl, rfl⟩ := h37
                have q9 := pext_in hk (b := b) (t := t) (a := 0) (by omega) (by omega)
                refine J_iadd C dX6_isPossible_141 ?_
                refine J_iload C 0 dX6_isPossible_142 rfl ?_
                refine J_iadd C dX6_isPossible_144 ?_
                refine J_aload_n C 3 dX6_isPossible_145 rfl ?_
                refine g_X6_7 hG C dX6_isPossible_146 ?_
                refine J_iload C 2 dX6_isPossible_149 rfl ?_
                refine mald hG C 1 3 (by decide) dX6_isPossible_151 (by omega) (by omega) ?_
                refine J_icmp_gt C 159 dX6_isPossible_152 (by decide) (by omega) (by omega) (fun h38 => ?_) (fun h38 => ?_)
                · refine J_iconst C dX6_isPossible_159 ?_
                  refine J_istore (lv' := [(7, .int (iI (0))), (11, .int (iI (pext (S 2) (o) (u) (0)))), (10, .int (iI (x))), (9, .int (iI (0))), (0, .ref (jad G 0)), (1, .int (iI (o))), (2, .int (iI (b))), (3, .int (iI (t))), (4, .int (iI (x))), (5, .int (iI (y))), (6, .int (iI (z))), (8, .int (iI (u)))]) C dX6_isPossible_160 (by decide) rfl ?_
                  refine J_iinc (lv' := [(9, .int (iI (1))), (7, .int (iI (0))), (11, .int (iI (pext (S 2) (o) (u) (0)))), (10, .int (iI (x))), (0, .ref (jad G 0)), (1, .int (iI (o))), (2, .int (iI (b))), (3, .int (iI (t))), (4, .int (iI (x))), (5, .int (iI (y))), (6, .int (iI (z))), (8, .int (iI (u)))]) C 3 dX6_isPossible_162 rfl (by decide) rfl ?_
                  refine J_goto C 77 dX6_isPossible_165 (by decide) ?_
                  refine J_iload C 0 dX6_isPossible_77 rfl ?_
                  refine J_iconst C dX6_isPossible_79 ?_
                  refine J_icmp_ge C 168 dX6_isPossible_80 (by decide) (by omega) (by omega) (fun h => absurd h (by omega)) (fun _ => ?_)
                  refine J_iload C 0 dX6_isPossible_83 rfl ?_
                  refine J_if_ne C 93 dX6_isPossible_85 (by decide) (by omega) (fun _ => ?_) (fun h => absurd h (by omega))
                  refine J_iload C 0 dX6_isPossible_93 rfl ?_
                  refine J_iconst C dX6_isPossible_95 ?_
                  refine J_icmp_ne C 104 dX6_isPossible_96 (by decide) (by omega) (by omega) (fun h => absurd h (by omega)) (fun _ => ?_)
                  refine J_iload C 9 dX6_isPossible_99 rfl ?_
                  refine J_goto C 106 dX6_isPossible_101 (by decide) ?_
                  refine J_istore (lv' := [(10, .int (iI (y))), (9, .int (iI (1))), (7, .int (iI (0))), (11, .int (iI (pext (S 2) (o) (u) (0)))), (0, .ref (jad G 0)), (1, .int (iI (o))), (2, .int (iI (b))), (3, .int (iI (t))), (4, .int (iI (x))), (5, .int (iI (y))), (6, .int (iI (z))), (8, .int (iI (u)))]) C dX6_isPossible_106 (by decide) rfl ?_
                  refine J_aload_n C 4 dX6_isPossible_108 rfl ?_
                  refine J_iload_n C 5 dX6_isPossible_109 rfl ?_
                  refine J_iload C 11 dX6_isPossible_110 rfl ?_
                  refine J_iload C 1 dX6_isPossible_112 rfl ?_
                  refine J_callV (k := 0) (rest := []) C (m_extent hG S (o) (u) (1) (by omega) (by omega) (by omega)) kc_X6_extent kl_X6_121 (by rw [hG.2]; decide) (by rw [hG.1]; rfl) rfl dX6_isPossible_114 rfl rfl (by decide) (Nat.le_of_ble_eq_true rfl) (J_ki (fun v42 S42 h42 => ?_))
                  obtain ⟨rfl, rfl⟩ := h42
                  have q10 := pext_in hk (b := o) (t := u) (a := 1) (by omega) (by omega)
                  refine J_istore (lv' := [(11, .int (iI (pext (S 2) (o) (u) (1)))), (10, .int (iI (y))), (9, .int (iI (1))), (7, .int (iI (0))), (0, .ref (jad G 0)), (1, .int (iI (o))), (2, .int (iI (b))), (3, .int (iI (t))), (4, .int (iI (x))), (5, .int (iI (y))), (6, .int (iI (z))), (8, .int (iI (u)))]) C dX6_isPossible_117 (by decide) rfl ?_
                  refine J_iload C 3 dX6_isPossible_119 rfl ?_
                  refine J_if_ne C 155 dX6_isPossible_121 (by decide) (by omega) (fun h => absurd h (by omega)) (fun _ => ?_)
                  refine J_iload C 0 dX6_isPossible_124 rfl ?_
                  refine J_iload C 1 dX6_isPossible_126 rfl ?_
                  refine J_icmp_le C 155 dX6_isPossible_128 (by decide) (by omega) (by omega) (fun h44 => ?_) (fun h44 => ?_)
                  · refine J_iconst C dX6_isPossible_155 ?_
                    refine J_goto C 160 dX6_isPossible_156 (by decide) ?_
                    refine J_istore (lv' := [(7, .int (iI (1))), (11, .int (iI (pext (S 2) (o) (u) (1)))), (10, .int (iI (y))), (9, .int (iI (1))), (0, .ref (jad G 0)), (1, .int (iI (o))), (2, .int (iI (b))), (3, .int (iI (t))), (4, .int (iI (x))), (5, .int (iI (y))), (6, .int (iI (z))), (8, .int (iI (u)))]) C dX6_isPossible_160 (by decide) rfl ?_
                    refine J_iinc (lv' := [(9, .int (iI (2))), (7, .int (iI (1))), (11, .int (iI (pext (S 2) (o) (u) (1)))), (10, .int (iI (y))), (0, .ref (jad G 0)), (1, .int (iI (o))), (2, .int (iI (b))), (3, .int (iI (t))), (4, .int (iI (x))), (5, .int (iI (y))), (6, .int (iI (z))), (8, .int (iI (u)))]) C 3 dX6_isPossible_162 rfl (by decide) rfl ?_
                    refine J_goto C 77 dX6_isPossible_165 (by decide) ?_
                    refine J_iload C 0 dX6_isPossible_77 rfl ?_
                    refine J_iconst C dX6_isPossible_79 ?_
                    refine J_icmp_ge C 168 dX6_isPossible_80 (by decide) (by omega) (by omega) (fun h => absurd h (by omega)) (fun _ => ?_)
                    refine J_iload C 0 dX6_isPossible_83 rfl ?_
                    refine J_if_ne C 93 dX6_isPossible_85 (by decide) (by omega) (fun _ => ?_) (fun h => absurd h (by omega))
                    refine J_iload C 0 dX6_isPossible_93 rfl ?_
                    refine J_iconst C dX6_isPossible_95 ?_
                    refine J_icmp_ne C 104 dX6_isPossible_96 (by decide) (by omega) (by omega) (fun _ => ?_) (fun h => absurd h (by omega))
                    refine J_iload C 10 dX6_isPossible_104 rfl ?_
                    refine J_istore (lv' := [(10, .int (iI (z))), (9, .int (iI (2))), (7, .int (iI (1))), (11, .int (iI (pext (S 2) (o) (u) (1)))), (0, .ref (jad G 0)), (1, .int (iI (o))), (2, .int (iI (b))), (3, .int (iI (t))), (4, .int (iI (x))), (5, .int (iI (y))), (6, .int (iI (z))), (8, .int (iI (u)))]) C dX6_isPossible_106 (by decide) rfl ?_
                    refine J_aload_n C 4 dX6_isPossible_108 rfl ?_
                    refine J_iload_n C 5 dX6_isPossible_109 rfl ?_
                    refine J_iload C 11 dX6_isPossible_110 rfl ?_
                    refine J_iload C 1 dX6_isPossible_112 rfl ?_
                    refine J_callV (k := 0) (rest := []) C (m_extent hG S (o) (u) (2) (by omega) (by omega) (by omega)) kc_X6_extent kl_X6_121 (by rw [hG.2]; decide) (by rw [hG.1]; rfl) rfl dX6_isPossible_114 rfl rfl (by decide) (Nat.le_of_ble_eq_true rfl) (J_ki (fun v48 S48 h48 => ?_))
                    obtain ⟨rfl, rfl⟩ := h48
                    have q11 := pext_in hk (b := o) (t := u) (a := 2) (by omega) (by omega)
                    refine J_istore (lv' := [(11, .int (iI (pext (S 2) (o) (u) (2)))), (10, .int (iI (z))), (9, .int (iI (2))), (7, .int (iI (1))), (0, .ref (jad G 0)), (1, .int (iI (o))), (2, .int (iI (b))), (3, .int (iI (t))), (4, .int (iI (x))), (5, .int (iI (y))), (6, .int (iI (z))), (8, .int (iI (u)))]) C dX6_isPossible_117 (by decide) rfl ?_
                    refine J_iload C 3 dX6_isPossible_119 rfl ?_
                    refine J_if_ne C 155 dX6_isPossible_121 (by decide) (by omega) (fun _ => ?_) (fun h => absurd h (by omega))
                    refine J_iconst C dX6_isPossible_155 ?_
                    refine J_goto C 160 dX6_isPossible_156 (by decide) ?_
                    refine J_istore (lv' := [(7, .int (iI (1))), (11, .int (iI (pext (S 2) (o) (u) (2)))), (10, .int (iI (z))), (9, .int (iI (2))), (0, .ref (jad G 0)), (1, .int (iI (o))), (2, .int (iI (b))), (3, .int (iI (t))), (4, .int (iI (x))), (5, .int (iI (y))), (6, .int (iI (z))), (8, .int (iI (u)))]) C dX6_isPossible_160 (by decide) rfl ?_
                    refine J_iinc (lv' := [(9, .int (iI (3))), (7, .int (iI (1))), (11, .int (iI (pext (S 2) (o) (u) (2)))), (10, .int (iI (z))), (0, .ref (jad G 0)), (1, .int (iI (o))), (2, .int (iI (b))), (3, .int (iI (t))), (4, .int (iI (x))), (5, .int (iI (y))), (6, .int (iI (z))), (8, .int (iI (u)))]) C 3 dX6_isPossible_162 rfl (by decide) rfl ?_
                    refine J_goto C 77 dX6_isPossible_165 (by decide) ?_
                    refine J_iload C 0 dX6_isPossible_77 rfl ?_
                    refine J_iconst C dX6_isPossible_79 ?_
                    refine J_icmp_ge C 168 dX6_isPossible_80 (by decide) (by omega) (by omega) (fun _ => ?_) (fun h => absurd h (by omega))
                    refine J_iinc (lv' := [(8, .int (iI (u + 1))), (9, .int (iI (3))), (7, .int (iI (1))), (11, .int (iI (pext (S 2) (o) (u) (2)))), (10, .int (iI (z))), (0, .ref (jad G 0)), (1, .int (iI (o))), (2, .int (iI (b))), (3, .int (iI (t))), (4, .int (iI (x))), (5, .int (iI (y))), (6, .int (iI (z)))]) C 11 dX6_isPossible_168 rfl (by decide) rfl ?_
                    refine J_goto C 6 dX6_isPossible_171 (by decide) ?_
                    refine J_lv [5, 6, 7, 8, 9, 10, 11, 2, 0] rfl ?_
                    refine ih _ (by omega) 1 (u + 1) rfl ⟨by omega, Or.inr rfl, flag_1 hB hu.1 ?_⟩
                    by_cases hd : d = 1
                    · exact Or.inl hd
                    · exact Or.inr ⟨⟨by omega, by omega⟩, by omega⟩
                  · refine J_iload C 1 dX6_isPossible_131 rfl ?_
                    refine J_aload_n C 4 dX6_isPossible_133 rfl ?_
                    refine J_iload_n C 6 dX6_isPossible_134 rfl ?_
                    refine J_iload_n C 7 dX6_isPossible_135 rfl ?_
                    refine J_iload C 2 dX6_isPossible_136 rfl ?_
                    refine J_callV (k := 0) (rest := [.int (iI (y))]) C (m_extent hG S (b) (t) (1) (by omega) (by omega) (by omega)) kc_X6_extent kl_X6_121 (by rw [hG.2]; decide) (by rw [hG.1]; rfl) rfl dX6_isPossible_138 rfl rfl (by decide) (Nat.le_of_ble_eq_true rfl) (J_ki (fun v51 S51 h51 => ?_))
                    obtain ⟨rfl, rfl⟩ := h51
                    have q12 := pext_in hk (b := b) (t := t) (a := 1) (by omega) (by omega)
                    refine J_iadd C dX6_isPossible_141 ?_
                    refine J_iload C 0 dX6_isPossible_142 rfl ?_
                    refine J_iadd C dX6_isPossible_144 ?_
                    refine J_aload_n C 4 dX6_isPossible_145 rfl ?_
                    refine g_X6_7 hG C dX6_isPossible_146 ?_
                    refine J_iload C 2 dX6_isPossible_149 rfl ?_
                    refine mald hG C 1 3 (by decide) dX6_isPossible_151 (by omega) (by omega) ?_
                    refine J_icmp_gt C 159 dX6_isPossible_152 (by decide) (by omega) (by omega) (fun h52 => ?_) (fun h52 => ?_)
                    · refine J_iconst C dX6_isPossible_159 ?_
                      refine J_istore (lv' := [(7, .int (iI (0))), (11, .int (iI (pext (S 2) (o) (u) (1)))), (10, .int (iI (y))), (9, .int (iI (1))), (0, .ref (jad G 0)), (1, .int (iI (o))), (2, .int (iI (b))), (3, .int (iI (t))), (4, .int (iI (x))), (5, .int (iI (y))), (6, .int (iI (z))), (8, .int (iI (u)))]) C dX6_isPossible_160 (by decide) rfl ?_
                      refine J_iinc (lv' := [(9, .int (iI (2))), (7, .int (iI (0))), (11, .int (iI (pext (S 2) (o) (u) (1)))), (10, .int (iI (y))), (0, .ref (jad G 0)), (1, .int (iI (o))), (2, .int (iI (b))), (3, .int (iI (t))), (4, .int (iI (x))), (5, .int (iI (y))), (6, .int (iI (z))), (8, .int (iI (u)))]) C 3 dX6_isPossible_162 rfl (by decide) rfl ?_
                      refine J_goto C 77 dX6_isPossible_165 (by decide) ?_
                      refine J_iload C 0 dX6_isPossible_77 rfl ?_
                      refine J_iconst C dX6_isPossible_79 ?_
                      refine J_icmp_ge C 168 dX6_isPossible_80 (by decide) (by omega) (by omega) (fun h => absurd h (by omega)) (fun _ => ?_)
                      refine J_iload C 0 dX6_isPossible_83 rfl ?_
                      refine J_if_ne C 93 dX6_isPossible_85 (by decide) (by omega) (fun _ => ?_) (fun h => absurd h (by omega))
                      refine J_iload C 0 dX6_isPossible_93 rfl ?_
                      refine J_iconst C dX6_isPossible_95 ?_
                      refine J_icmp_ne C 104 dX6_isPossible_96 (by decide) (by omega) (by omega) (fun _ => ?_) (fun h => absurd h (by omega))
                      refine J_iload C 10 dX6_isPossible_104 rfl ?_
                      refine J_istore (lv' := [(10, .int (iI (z))), (9, .int (iI (2))), (7, .int (iI (0))), (11, .int (iI (pext (S 2) (o) (u) (1)))), (0, .ref (jad G 0)), (1, .int (iI (o))), (2, .int (iI (b))), (3, .int (iI (t))), (4, .int (iI (x))), (5, .int (iI (y))), (6, .int (iI (z))), (8, .int (iI (u)))]) C dX6_isPossible_106 (by decide) rfl ?_
                      refine J_aload_n C 4 dX6_isPossible_108 rfl ?_
                      refine J_iload_n C 5 dX6_isPossible_109 rfl ?_
                      refine J_iload C 11 dX6_isPossible_110 rfl ?_
                      refine J_iload C 1 dX6_isPossible_112 rfl ?_
                      refine J_callV (k := 0) (rest := []) C (m_extent hG S (o) (u) (2) (by omega) (by omega) (by omega)) kc_X6_extent kl_X6_121 (by rw [hG.2]; decide) (by rw [hG.1]; rfl) rfl dX6_isPossible_114 rfl rfl (by decide) (Nat.le_of_ble_eq_true rfl) (J_ki (fun v56 S56 h56 => ?_))
                      obtain ⟨rfl, rfl⟩ := h56
                      have q13 := pext_in hk (b := o) (t := u) (a := 2) (by omega) (by omega)
                      refine J_istore (lv' := [(11, .int (iI (pext (S 2) (o) (u) (2)))), (10, .int (iI (z))), (9, .int (iI (2))), (7, .int (iI (0))), (0, .ref (jad G 0)), (1, .int (iI (o))), (2, .int (iI (b))), (3, .int (iI (t))), (4, .int (iI (x))), (5, .int (iI (y))), (6, .int (iI (z))), (8, .int (iI (u)))]) C dX6_isPossible_117 (by decide) rfl ?_
                      refine J_iload C 3 dX6_isPossible_119 rfl ?_
                      refine J_if_ne C 155 dX6_isPossible_121 (by decide) (by omega) (fun h => absurd h (by omega)) (fun _ => ?_)
                      refine J_iload C 0 dX6_isPossible_124 rfl ?_
                      refine J_iload C 1 dX6_isPossible_126 rfl ?_
                      refine J_icmp_le C 155 dX6_isPossible_128 (by decide) (by omega) (by omega) (fun h58 => ?_) (fun h58 => ?_)
                      · refine J_iconst C dX6_isPossible_155 ?_
                        refine J_goto C 160 dX6_isPossible_156 (by decide) ?_
                        refine J_istore (lv' := [(7, .int (iI (1))), (11, .int (iI (pext (S 2) (o) (u) (2)))), (10, .int (iI (z))), (9, .int (iI (2))), (0, .ref (jad G 0)), (1, .int (iI (o))), (2, .int (iI (b))), (3, .int (iI (t))), (4, .int (iI (x))), (5, .int (iI (y))), (6, .int (iI (z))), (8, .int (iI (u)))]) C dX6_isPossible_160 (by decide) rfl ?_
                        refine J_iinc (lv' := [(9, .int (iI (3))), (7, .int (iI (1))), (11, .int (iI (pext (S 2) (o) (u) (2)))), (10, .int (iI (z))), (0, .ref (jad G 0)), (1, .int (iI (o))), (2, .int (iI (b))), (3, .int (iI (t))), (4, .int (iI (x))), (5, .int (iI (y))), (6, .int (iI (z))), (8, .int (iI (u)))]) C 3 dX6_isPossible_162 rfl (by decide) rfl ?_
                        refine J_goto C 77 dX6_isPossible_165 (by decide) ?_
                        refine J_iload C 0 dX6_isPossible_77 rfl ?_
                        refine J_iconst C dX6_isPossible_79 ?_
                        refine J_icmp_ge C 168 dX6_isPossible_80 (by decide) (by omega) (by omega) (fun _ => ?_) (fun h => absurd h (by omega))
                        refine J_iinc (lv' := [(8, .int (iI (u + 1))), (9, .int (iI (3))), (7, .int (iI (1))), (11, .int (iI (pext (S 2) (o) (u) (2)))), (10, .int (iI (z))), (0, .ref (jad G 0)), (1, .int (iI (o))), (2, .int (iI (b))), (3, .int (iI (t))), (4, .int (iI (x))), (5, .int (iI (y))), (6, .int (iI (z)))]) C 11 dX6_isPossible_168 rfl (by decide) rfl ?_
                        refine J_goto C 6 dX6_isPossible_171 (by decide) ?_
                        refine J_lv [5, 6, 7, 8, 9, 10, 11, 2, 0] rfl ?_
                        refine ih _ (by omega) 1 (u + 1) rfl ⟨by omega, Or.inr rfl, flag_1 hB hu.1 ?_⟩
                        by_cases hd : d = 1
                        · exact Or.inl hd
                        · exact Or.inr ⟨⟨by omega, by omega⟩, by omega⟩
                      · refine J_iload C 1 dX6_isPossible_131 rfl ?_
                        refine J_aload_n C 4 dX6_isPossible_133 rfl ?_
                        refine J_iload_n C 6 dX6_isPossible_134 rfl ?_
                        refine J_iload_n C 7 dX6_isPossible_135 rfl ?_
                        refine J_iload C 2 dX6_isPossible_136 rfl ?_
                        refine J_callV (k := 0) (rest := [.int (iI (z))]) C (m_extent hG S (b) (t) (2) (by omega) (by omega) (by omega)) kc_X6_extent kl_X6_121 (by rw [hG.2]; decide) (by rw [hG.1]; rfl) rfl dX6_isPossible_138 rfl rfl (by decide) (Nat.le_of_ble_eq_true rfl) (J_ki (fun v60 S60 h60 => ?_))
                        obtain ⟨rfl, rfl⟩ := h60
                        have q14 := pext_in hk (b := b) (t := t) (a := 2) (by omega) (by omega)
                        refine J_iadd C dX6_isPossible_141 ?_
                        refine J_iload C 0 dX6_isPossible_142 rfl ?_
                        refine J_iadd C dX6_isPossible_144 ?_
                        refine J_aload_n C 4 dX6_isPossible_145 rfl ?_
                        refine g_X6_7 hG C dX6_isPossible_146 ?_
                        refine J_iload C 2 dX6_isPossible_149 rfl ?_
                        refine mald hG C 1 3 (by decide) dX6_isPossible_151 (by omega) (by omega) ?_
                        refine J_icmp_gt C 159 dX6_isPossible_152 (by decide) (by omega) (by omega) (fun h61 => ?_) (fun h61 => ?_)
                        · refine J_iconst C dX6_isPossible_159 ?_
                          refine J_istore (lv' := [(7, .int (iI (0))), (11, .int (iI (pext (S 2) (o) (u) (2)))), (10, .int (iI (z))), (9, .int (iI (2))), (0, .ref (jad G 0)), (1, .int (iI (o))), (2, .int (iI (b))), (3, .int (iI (t))), (4, .int (iI (x))), (5, .int (iI (y))), (6, .int (iI (z))), (8, .int (iI (u)))]) C dX6_isPossible_160 (by decide) rfl ?_
                          refine J_iinc (lv' := [(9, .int (iI (3))), (7, .int (iI (0))), (11, .int (iI (pext (S 2) (o) (u) (2)))), (10, .int (iI (z))), (0, .ref (jad G 0)), (1, .int (iI (o))), (2, .int (iI (b))), (3, .int (iI (t))), (4, .int (iI (x))), (5, .int (iI (y))), (6, .int (iI (z))), (8, .int (iI (u)))]) C 3 dX6_isPossible_162 rfl (by decide) rfl ?_
                          refine J_goto C 77 dX6_isPossible_165 (by decide) ?_
                          refine J_iload C 0 dX6_isPossible_77 rfl ?_
                          refine J_iconst C dX6_isPossible_79 ?_
                          refine J_icmp_ge C 168 dX6_isPossible_80 (by decide) (by omega) (by omega) (fun _ => ?_) (fun h => absurd h (by omega))
                          refine J_iinc (lv' := [(8, .int (iI (u + 1))), (9, .int (iI (3))), (7, .int (iI (0))), (11, .int (iI (pext (S 2) (o) (u) (2)))), (10, .int (iI (z))), (0, .ref (jad G 0)), (1, .int (iI (o))), (2, .int (iI (b))), (3, .int (iI (t))), (4, .int (iI (x))), (5, .int (iI (y))), (6, .int (iI (z)))]) C 11 dX6_isPossible_168 rfl (by decide) rfl ?_
                          refine J_goto C 6 dX6_isPossible_171 (by decide) ?_
                          refine J_lv [5, 6, 7, 8, 9, 10, 11, 2, 0] rfl ?_
                          exact ih _ (by omega) 0 (u + 1) rfl ⟨by omega, Or.inl rfl, flag_0 hB hu.1 (by omega) (fun v3 => by have v4 := v3.2; omega)⟩
                        · refine J_iconst C dX6_isPossible_155 ?_
                          refine J_goto C 160 dX6_isPossible_156 (by decide) ?_
                          refine J_istore (lv' := [(7, .int (iI (1))), (11, .int (iI (pext (S 2) (o) (u) (2)))), (10, .int (iI (z))), (9, .int (iI (2))), (0, .ref (jad G 0)), (1, .int (iI (o))), (2, .int (iI (b))), (3, .int (iI (t))), (4, .int (iI (x))), (5, .int (iI (y))), (6, .int (iI (z))), (8, .int (iI (u)))]) C dX6_isPossible_160 (by decide) rfl ?_
                          refine J_iinc (lv' := [(9, .int (iI (3))), (7, .int (iI (1))), (11, .int (iI (pext (S 2) (o) (u) (2)))), (10, .int (iI (z))), (0, .ref (jad G 0)), (1, .int (iI (o))), (2, .int (iI (b))), (3, .int (iI (t))), (4, .int (iI (x))), (5, .int (iI (y))), (6, .int (iI (z))), (8, .int (iI (u)))]) C 3 dX6_isPossible_162 rfl (by decide) rfl ?_
                          refine J_goto C 77 dX6_isPossible_165 (by decide) ?_
                          refine J_iload C 0 dX6_isPossible_77 rfl ?_
                          refine J_iconst C dX6_isPossible_79 ?_
                          refine J_icmp_ge C 168 dX6_isPossible_80 (by decide) (by omega) (by omega) (fun _ => ?_) (fun h => absurd h (by omega))
                          refine J_iinc (lv' := [(8, .int (iI (u + 1))), (9, .int (iI (3))), (7, .int (iI (1))), (11, .int (iI (pext (S 2) (o) (u) (2)))), (10, .int (iI (z))), (0, .ref (jad G 0)), (1, .int (iI (o))), (2, .int (iI (b))), (3, .int (iI (t))), (4, .int (iI (x))), (5, .int (iI (y))), (6, .int (iI (z)))]) C 11 dX6_isPossible_168 rfl (by decide) rfl ?_
                          refine J_goto C 6 dX6_isPossible_171 (by decide) ?_
                          refine J_lv [5, 6, 7, 8, 9, 10, 11, 2, 0] rfl ?_
                          refine ih _ (by omega) 1 (u + 1) rfl ⟨by omega, Or.inr rfl, flag_1 hB hu.1 ?_⟩
                          by_cases hd : d = 1
                          · exact Or.inl hd
                          · exact Or.inr ⟨⟨by omega, by omega⟩, by omega⟩
                    · refine J_iconst C dX6_isPossible_155 ?_
                      refine J_goto C 160 dX6_isPossible_156 (by decide) ?_
                      refine J_istore (lv' := [(7, .int (iI (1))), (11, .int (iI (pext (S 2) (o) (u) (1)))), (10, .int (iI (y))), (9, .int (iI (1))), (0, .ref (jad G 0)), (1, .int (iI (o))), (2, .int (iI (b))), (3, .int (iI (t))), (4, .int (iI (x))), (5, .int (iI (y))), (6, .int (iI (z))), (8, .int (iI (u)))]) C dX6_isPossible_160 (by decide) rfl ?_
                      refine J_iinc (lv' := [(9, .int (iI (2))), (7, .int (iI (1))), (11, .int (iI (pext (S 2) (o) (u) (1)))), (10, .int (iI (y))), (0, .ref (jad G 0)), (1, .int (iI (o))), (2, .int (iI (b))), (3, .int (iI (t))), (4, .int (iI (x))), (5, .int (iI (y))), (6, .int (iI (z))), (8, .int (iI (u)))]) C 3 dX6_isPossible_162 rfl (by decide) rfl ?_
                      refine J_goto C 77 dX6_isPossible_165 (by decide) ?_
                      refine J_iload C 0 dX6_isPossible_77 rfl ?_
                      refine J_iconst C dX6_isPossible_79 ?_
                      refine J_icmp_ge C 168 dX6_isPossible_80 (by decide) (by omega) (by omega) (fun h => absurd h (by omega)) (fun _ => ?_)
                      refine J_iload C 0 dX6_isPossible_83 rfl ?_
                      refine J_if_ne C 93 dX6_isPossible_85 (by decide) (by omega) (fun _ => ?_) (fun h => absurd h (by omega))
                      refine J_iload C 0 dX6_isPossible_93 rfl ?_
                      refine J_iconst C dX6_isPossible_95 ?_
                      refine J_icmp_ne C 104 dX6_isPossible_96 (by decide) (by omega) (by omega) (fun _ => ?_) (fun h => absurd h (by omega))
                      refine J_iload C 10 dX6_isPossible_104 rfl ?_
                      refine J_istore (lv' := [(10, .int (iI (z))), (9, .int (iI (2))), (7, .int (iI (1))), (11, .int (iI (pext (S 2) (o) (u) (1)))), (0, .ref (jad G 0)), (1, .int (iI (o))), (2, .int (iI (b))), (3, .int (iI (t))), (4, .int (iI (x))), (5, .int (iI (y))), (6, .int (iI (z))), (8, .int (iI (u)))]) C dX6_isPossible_106 (by decide) rfl ?_
                      refine J_aload_n C 4 dX6_isPossible_108 rfl ?_
                      refine J_iload_n C 5 dX6_isPossible_109 rfl ?_
                      refine J_iload C 11 dX6_isPossible_110 rfl ?_
                      refine J_iload C 1 dX6_isPossible_112 rfl ?_
                      refine J_callV (k := 0) (rest := []) C (m_extent hG S (o) (u) (2) (by omega) (by omega) (by omega)) kc_X6_extent kl_X6_121 (by rw [hG.2]; decide) (by rw [hG.1]; rfl) rfl dX6_isPossible_114 rfl rfl (by decide) (Nat.le_of_ble_eq_true rfl) (J_ki (fun v67 S67 h67 => ?_))
                      obtain ⟨rfl, rfl⟩ := h67
                      have q15 := pext_in hk (b := o) (t := u) (a := 2) (by omega) (by omega)
                      refine J_istore (lv' := [(11, .int (iI (pext (S 2) (o) (u) (2)))), (10, .int (iI (z))), (9, .int (iI (2))), (7, .int (iI (1))), (0, .ref (jad G 0)), (1, .int (iI (o))), (2, .int (iI (b))), (3, .int (iI (t))), (4, .int (iI (x))), (5, .int (iI (y))), (6, .int (iI (z))), (8, .int (iI (u)))]) C dX6_isPossible_117 (by decide) rfl ?_
                      refine J_iload C 3 dX6_isPossible_119 rfl ?_
                      refine J_if_ne C 155 dX6_isPossible_121 (by decide) (by omega) (fun _ => ?_) (fun h => absurd h (by omega))
                      refine J_iconst C dX6_isPossible_155 ?_
                      refine J_goto C 160 dX6_isPossible_156 (by decide) ?_
                      refine J_istore (lv' := [(7, .int (iI (1))), (11, .int (iI (pext (S 2) (o) (u) (2)))), (10, .int (iI (z))), (9, .int (iI (2))), (0, .ref (jad G 0)), (1, .int (iI (o))), (2, .int (iI (b))), (3, .int (iI (t))), (4, .int (iI (x))), (5, .int (iI (y))), (6, .int (iI (z))), (8, .int (iI (u)))]) C dX6_isPossible_160 (by decide) rfl ?_
                      refine J_iinc (lv' := [(9, .int (iI (3))), (7, .int (iI (1))), (11, .int (iI (pext (S 2) (o) (u) (2)))), (10, .int (iI (z))), (0, .ref (jad G 0)), (1, .int (iI (o))), (2, .int (iI (b))), (3, .int (iI (t))), (4, .int (iI (x))), (5, .int (iI (y))), (6, .int (iI (z))), (8, .int (iI (u)))]) C 3 dX6_isPossible_162 rfl (by decide) rfl ?_
                      refine J_goto C 77 dX6_isPossible_165 (by decide) ?_
                      refine J_iload C 0 dX6_isPossible_77 rfl ?_
                      refine J_iconst C dX6_isPossible_79 ?_
                      refine J_icmp_ge C 168 dX6_isPossible_80 (by decide) (by omega) (by omega) (fun _ => ?_) (fun h => absurd h (by omega))
                      refine J_iinc (lv' := [(8, .int (iI (u + 1))), (9, .int (iI (3))), (7, .int (iI (1))), (11, .int (iI (pext (S 2) (o) (u) (2)))), (10, .int (iI (z))), (0, .ref (jad G 0)), (1, .int (iI (o))), (2, .int (iI (b))), (3, .int (iI (t))), (4, .int (iI (x))), (5, .int (iI (y))), (6, .int (iI (z)))]) C 11 dX6_isPossible_168 rfl (by decide) rfl ?_
                      refine J_goto C 6 dX6_isPossible_171 (by decide) ?_
                      refine J_lv [5, 6, 7, 8, 9, 10, 11, 2, 0] rfl ?_
                      refine ih _ (by omega) 1 (u + 1) rfl ⟨by omega, Or.inr rfl, flag_1 hB hu.1 ?_⟩
                      by_cases hd : d = 1
                      · exact Or.inl hd
                      · exact Or.inr ⟨⟨by omega, by omega⟩, by omega⟩
                · refine J_iconst C dX6_isPossible_155 ?_
                  refine J_goto C 160 dX6_isPossible_156 (by decide) ?_
                  refine J_istore (lv' := [(7, .int (iI (1))), (11, .int (iI (pext (S 2) (o) (u) (0)))), (10, .int (iI (x))), (9, .int (iI (0))), (0, .ref (jad G 0)), (1, .int (iI (o))), (2, .int (iI (b))), (3, .int (iI (t))), (4, .int (iI (x))), (5, .int (iI (y))), (6, .int (iI (z))), (8, .int (iI (u)))]) C dX6_isPossible_160 (by decide) rfl ?_
                  refine J_iinc (lv' := [(9, .int (iI (1))), (7, .int (iI (1))), (11, .int (iI (pext (S 2) (o) (u) (0)))), (10, .int (iI (x))), (0, .ref (jad G 0)), (1, .int (iI (o))), (2, .int (iI (b))), (3, .int (iI (t))), (4, .int (iI (x))), (5, .int (iI (y))), (6, .int (iI (z))), (8, .int (iI (u)))]) C 3 dX6_isPossible_162 rfl (by decide) rfl ?_
                  refine J_goto C 77 dX6_isPossible_165 (by decide) ?_
                  refine J_iload C 0 dX6_isPossible_77 rfl ?_
                  refine J_iconst C dX6_isPossible_79 ?_
                  refine J_icmp_ge C 168 dX6_isPossible_80 (by decide) (by omega) (by omega) (fun h => absurd h (by omega)) (fun _ => ?_)
                  refine J_iload C 0 dX6_isPossible_83 rfl ?_
                  refine J_if_ne C 93 dX6_isPossible_85 (by decide) (by omega) (fun _ => ?_) (fun h => absurd h (by omega))
                  refine J_iload C 0 dX6_isPossible_93 rfl ?_
                  refine J_iconst C dX6_isPossible_95 ?_
                  refine J_icmp_ne C 104 dX6_isPossible_96 (by decide) (by omega) (by omega) (fun h => absurd h (by omega)) (fun _ => ?_)
                  refine J_iload C 9 dX6_isPossible_99 rfl ?_
                  refine J_goto C 106 dX6_isPossible_101 (by decide) ?_
                  refine J_istore (lv' := [(10, .int (iI (y))), (9, .int (iI (1))), (7, .int (iI (1))), (11, .int (iI (pext (S 2) (o) (u) (0)))), (0, .ref (jad G 0)), (1, .int (iI (o))), (2, .int (iI (b))), (3, .int (iI (t))), (4, .int (iI (x))), (5, .int (iI (y))), (6, .int (iI (z))), (8, .int (iI (u)))]) C dX6_isPossible_106 (by decide) rfl ?_
                  refine J_aload_n C 4 dX6_isPossible_108 rfl ?_
                  refine J_iload_n C 5 dX6_isPossible_109 rfl ?_
                  refine J_iload C 11 dX6_isPossible_110 rfl ?_
                  refine J_iload C 1 dX6_isPossible_112 rfl ?_
                  refine J_callV (k := 0) (rest := []) C (m_extent hG S (o) (u) (1) (by omega) (by omega) (by omega)) kc_X6_extent kl_X6_121 (by rw [hG.2]; decide) (by rw [hG.1]; rfl) rfl dX6_isPossible_114 rfl rfl (by decide) (Nat.le_of_ble_eq_true rfl) (J_ki (fun v73 S73 h73 => ?_))
                  obtain ⟨rfl, rfl⟩ := h73
                  have q16 := pext_in hk (b := o) (t := u) (a := 1) (by omega) (by omega)
                  refine J_istore (lv' := [(11, .int (iI (pext (S 2) (o) (u) (1)))), (10, .int (iI (y))), (9, .int (iI (1))), (7, .int (iI (1))), (0, .ref (jad G 0)), (1, .int (iI (o))), (2, .int (iI (b))), (3, .int (iI (t))), (4, .int (iI (x))), (5, .int (iI (y))), (6, .int (iI (z))), (8, .int (iI (u)))]) C dX6_isPossible_117 (by decide) rfl ?_
                  refine J_iload C 3 dX6_isPossible_119 rfl ?_
                  refine J_if_ne C 155 dX6_isPossible_121 (by decide) (by omega) (fun _ => ?_) (fun h => absurd h (by omega))
                  refine J_iconst C dX6_isPossible_155 ?_
                  refine J_goto C 160 dX6_isPossible_156 (by decide) ?_
                  refine J_istore (lv' := [(7, .int (iI (1))), (11, .int (iI (pext (S 2) (o) (u) (1)))), (10, .int (iI (y))), (9, .int (iI (1))), (0, .ref (jad G 0)), (1, .int (iI (o))), (2, .int (iI (b))), (3, .int (iI (t))), (4, .int (iI (x))), (5, .int (iI (y))), (6, .int (iI (z))), (8, .int (iI (u)))]) C dX6_isPossible_160 (by decide) rfl ?_
                  refine J_iinc (lv' := [(9, .int (iI (2))), (7, .int (iI (1))), (11, .int (iI (pext (S 2) (o) (u) (1)))), (10, .int (iI (y))), (0, .ref (jad G 0)), (1, .int (iI (o))), (2, .int (iI (b))), (3, .int (iI (t))), (4, .int (iI (x))), (5, .int (iI (y))), (6, .int (iI (z))), (8, .int (iI (u)))]) C 3 dX6_isPossible_162 rfl (by decide) rfl ?_
                  refine J_goto C 77 dX6_isPossible_165 (by decide) ?_
                  refine J_iload C 0 dX6_isPossible_77 rfl ?_
                  refine J_iconst C dX6_isPossible_79 ?_
                  refine J_icmp_ge C 168 dX6_isPossible_80 (by decide) (by omega) (by omega) (fun h => absurd h (by omega)) (fun _ => ?_)
                  refine J_iload C 0 dX6_isPossible_83 rfl ?_
                  refine J_if_ne C 93 dX6_isPossible_85 (by decide) (by omega) (fun _ => ?_) (fun h => absurd h (by omega))
                  refine J_iload C 0 dX6_isPossible_93 rfl ?_
                  refine J_iconst C dX6_isPossible_95 ?_
                  refine J_icmp_ne C 104 dX6_isPossible_96 (by decide) (by omega) (by omega) (fun _ => ?_) (fun h => absurd h (by omega))
                  refine J_iload C 10 dX6_isPossible_104 rfl ?_
                  refine J_istore (lv' := [(10, .int (iI (z))), (9, .int (iI (2))), (7, .int (iI (1))), (11, .int (iI (pext (S 2) (o) (u) (1)))), (0, .ref (jad G 0)), (1, .int (iI (o))), (2, .int (iI (b))), (3, .int (iI (t))), (4, .int (iI (x))), (5, .int (iI (y))), (6, .int (iI (z))), (8, .int (iI (u)))]) C dX6_isPossible_106 (by decide) rfl ?_
                  refine J_aload_n C 4 dX6_isPossible_108 rfl ?_
                  refine J_iload_n C 5 dX6_isPossible_109 rfl ?_
                  refine J_iload C 11 dX6_isPossible_110 rfl ?_
                  refine J_iload C 1 dX6_isPossible_112 rfl ?_
                  refine J_callV (k := 0) (rest := []) C (m_extent hG S (o) (u) (2) (by omega) (by omega) (by omega)) kc_X6_extent kl_X6_121 (by rw [hG.2]; decide) (by rw [hG.1]; rfl) rfl dX6_isPossible_114 rfl rfl (by decide) (Nat.le_of_ble_eq_true rfl) (J_ki (fun v78 S78 h78 => ?_))
                  obtain ⟨rfl, rfl⟩ := h78
                  have q17 := pext_in hk (b := o) (t := u) (a := 2) (by omega) (by omega)
                  refine J_istore (lv' := [(11, .int (iI (pext (S 2) (o) (u) (2)))), (10, .int (iI (z))), (9, .int (iI (2))), (7, .int (iI (1))), (0, .ref (jad G 0)), (1, .int (iI (o))), (2, .int (iI (b))), (3, .int (iI (t))), (4, .int (iI (x))), (5, .int (iI (y))), (6, .int (iI (z))), (8, .int (iI (u)))]) C dX6_isPossible_117 (by decide) rfl ?_
                  refine J_iload C 3 dX6_isPossible_119 rfl ?_
                  refine J_if_ne C 155 dX6_isPossible_121 (by decide) (by omega) (fun _ => ?_) (fun h => absurd h (by omega))
                  refine J_iconst C dX6_isPossible_155 ?_
                  refine J_goto C 160 dX6_isPossible_156 (by decide) ?_
                  refine J_istore (lv' := [(7, .int (iI (1))), (11, .int (iI (pext (S 2) (o) (u) (2)))), (10, .int (iI (z))), (9, .int (iI (2))), (0, .ref (jad G 0)), (1, .int (iI (o))), (2, .int (iI (b))), (3, .int (iI (t))), (4, .int (iI (x))), (5, .int (iI (y))), (6, .int (iI (z))), (8, .int (iI (u)))]) C dX6_isPossible_160 (by decide) rfl ?_
                  refine J_iinc (lv' := [(9, .int (iI (3))), (7, .int (iI (1))), (11, .int (iI (pext (S 2) (o) (u) (2)))), (10, .int (iI (z))), (0, .ref (jad G 0)), (1, .int (iI (o))), (2, .int (iI (b))), (3, .int (iI (t))), (4, .int (iI (x))), (5, .int (iI (y))), (6, .int (iI (z))), (8, .int (iI (u)))]) C 3 dX6_isPossible_162 rfl (by decide) rfl ?_
                  refine J_goto C 77 dX6_isPossible_165 (by decide) ?_
                  refine J_iload C 0 dX6_isPossible_77 rfl ?_
                  refine J_iconst C dX6_isPossible_79 ?_
                  refine J_icmp_ge C 168 dX6_isPossible_80 (by decide) (by omega) (by omega) (fun _ => ?_) (fun h => absurd h (by omega))
                  refine J_iinc (lv' := [(8, .int (iI (u + 1))), (9, .int (iI (3))), (7, .int (iI (1))), (11, .int (iI (pext (S 2) (o) (u) (2)))), (10, .int (iI (z))), (0, .ref (jad G 0)), (1, .int (iI (o))), (2, .int (iI (b))), (3, .int (iI (t))), (4, .int (iI (x))), (5, .int (iI (y))), (6, .int (iI (z)))]) C 11 dX6_isPossible_168 rfl (by decide) rfl ?_
                  refine J_goto C 6 dX6_isPossible_171 (by decide) ?_
                  refine J_lv [5, 6, 7, 8, 9, 10, 11, 2, 0] rfl ?_
                  refine ih _ (by omega) 1 (u + 1) rfl ⟨by omega, Or.inr rfl, flag_1 hB hu.1 ?_⟩
                  by_cases hd : d = 1
                  · exact Or.inl hd
                  · exact Or.inr ⟨⟨by omega, by omega⟩, by omega⟩
theorem m_poss {G : jG} (hG : mG G) (S : jMem) (o b t x y z : Int) (hk : mOK S) (ho : 0 ≤ o ∧ o < 8) (hb : 0 ≤ b ∧ b < 8) (ht : 0 ≤ t ∧ t < 6) (hx : 0 ≤ x ∧ x ≤ 20) (hy : 0 ≤ y ∧ y ≤ 20) (hz : 0 ≤ z ∧ z ≤ 20) : jM G yX6_isPossible cX6_isPossible 12 (some .boolean) 2 45 [.ref (jad G 0), .int (iI (o)), .int (iI (b)), .int (iI (t)), .int (iI (x)), .int (iI (y)), .int (iI (z))] S (jPi (fun v S' => bb (proom (S 1) (S 2) (S 4) o b t x y z) = v ∧ S = S')) := by
  refine jM.of (by decide) (Nat.le_of_ble_eq_true rfl) (fun E C R => ?_)
  show J E G 0 [(0, .ref (jad G 0)), (1, .int (iI (o))), (2, .int (iI (b))), (3, .int (iI (t))), (4, .int (iI (x))), (5, .int (iI (y))), (6, .int (iI (z)))] [] _
  refine J_iconst C dX6_isPossible_0 ?_
  refine J_istore (lv' := [(7, .int (iI (0))), (0, .ref (jad G 0)), (1, .int (iI (o))), (2, .int (iI (b))), (3, .int (iI (t))), (4, .int (iI (x))), (5, .int (iI (y))), (6, .int (iI (z)))]) C dX6_isPossible_1 (by decide) rfl ?_
  refine J_iconst C dX6_isPossible_3 ?_
  refine J_istore (lv' := [(8, .int (iI (0))), (7, .int (iI (0))), (0, .ref (jad G 0)), (1, .int (iI (o))), (2, .int (iI (b))), (3, .int (iI (t))), (4, .int (iI (x))), (5, .int (iI (y))), (6, .int (iI (z)))]) C dX6_isPossible_4 (by decide) rfl ?_
  refine J_lv [2, 3, 4, 5, 6, 7, 8, 1, 0] rfl ?_
  exact lm_poss hG C S o b t x y z hk ho hb ht hx hy hz R _ 0 0 rfl ⟨by omega, Or.inl rfl, anyB_0⟩
theorem lm_none {E : jEnv} {G : jG} (hG : mG G) (C : jX E G cX6_none 8 RX6 3 76) (S : jMem) (b t x y z : Int) (hk : mOK S) (hpl : pplace (S 0 1) (S 1) (S 2) (S 4) b t x y z) (R : jR E G (some .int) (jPi (fun v S' => @ite Int (pplace (S 0 1) (S 1) (S 2) (S 4) b t x y z) (Classical.propDecidable _) (bb (∃ o, (0 ≤ o ∧ o < S 0 1) ∧ o ≠ b ∧ ¬ proom (S 1) (S 2) (S 4) o b t x y z)) (-1) = v ∧ S = S'))) : ∀ (mm : Nat) (d u : Int), mm = (S 0 1 - u).toNat → ((0 ≤ u ∧ u ≤ S 0 1) ∧ (d = 0 ∨ d = 1) ∧ (d = 1 ↔ anyB (fun v => v ≠ b ∧ ¬ proom (S 1) (S 2) (S 4) v b t x y z) u)) → J E G 22 [(0, .ref (jad G 0)), (1, .int (iI (b))), (2, .int (iI (t))), (3, .int (iI (x))), (4, .int (iI (y))), (5, .int (iI (z))), (6, .int (iI (d))), (7, .int (iI (u)))] [] S := by
  intro mm
  induction mm using Nat.strongRecOn with | ind mm ih => ?_
  intro d u hm hi
  obtain ⟨hu, hA, hB⟩ := hi
  have hn := hk.1
  obtain ⟨p1, p2, p3, p4, p5, p6⟩ := id hpl
  have l0 := hk.2.1 0 (by omega) (by omega)
  have l1 := hk.2.1 1 (by omega) (by omega)
  have l2 := hk.2.1 2 (by omega) (by omega)
  have e0 := pext_in hk (b := b) (t := t) (a := 0) (by omega) (by omega)
  have e1 := pext_in hk (b := b) (t := t) (a := 1) (by omega) (by omega)
  have e2 := pext_in hk (b := b) (t := t) (a := 2) (by omega) (by omega)
  refine J_iload C 7 dX6_none_22 rfl ?_
  refine J_aload_n C 0 dX6_none_24 rfl ?_
  refine g_X6_81 hG C dX6_none_25 ?_
  refine J_icmp_ge C 71 dX6_none_28 (by decide) (by omega) (by omega) (fun h1 => ?_) (fun h1 => ?_)
  · refine J_iload C 6 dX6_none_71 rfl ?_
    refine J_if_eq C 80 dX6_none_73 (by decide) (by omega) (fun h2 => ?_) (fun h2 => ?_)
    · refine J_iconst C dX6_none_80 ?_
      refine J_iret R C dX6_none_81 (jPi.mk ⟨?_, rfl⟩)
      rw [if_pos hpl]
      have eu : u = S 0 1 := by omega
      rw [eu] at hB
      exact bb_f (fun h => by have := hB.mpr h; omega)
    · refine J_iconst C dX6_none_76 ?_
      refine J_goto C 81 dX6_none_77 (by decide) ?_
      refine J_iret R C dX6_none_81 (jPi.mk ⟨?_, rfl⟩)
      rw [if_pos hpl]
      have eu : u = S 0 1 := by omega
      rw [eu] at hB
      exact bb_t (hB.mp (by omega))
  · refine J_iload C 6 dX6_none_31 rfl ?_
    refine J_if_ne C 58 dX6_none_33 (by decide) (by omega) (fun h3 => ?_) (fun h3 => ?_)
    · refine J_iconst C dX6_none_58 ?_
      refine J_goto C 63 dX6_none_59 (by decide) ?_
      refine J_istore (lv' := [(6, .int (iI (1))), (0, .ref (jad G 0)), (1, .int (iI (b))), (2, .int (iI (t))), (3, .int (iI (x))), (4, .int (iI (y))), (5, .int (iI (z))), (7, .int (iI (u)))]) C dX6_none_63 (by decide) rfl ?_
      refine J_iinc (lv' := [(7, .int (iI (u + 1))), (6, .int (iI (1))), (0, .ref (jad G 0)), (1, .int (iI (b))), (2, .int (iI (t))), (3, .int (iI (x))), (4, .int (iI (y))), (5, .int (iI (z)))]) C 7 dX6_none_65 rfl (by decide) rfl ?_
      refine J_goto C 22 dX6_none_68 (by decide) ?_
      refine J_lv [2, 3, 4, 5, 6, 7, 1, 0] rfl ?_
      refine ih _ (by omega) 1 (u + 1) rfl ⟨by omega, Or.inr rfl, flag_1 hB hu.1 ?_⟩
      by_cases hd : d = 1
      · exact Or.inl hd
      · first | exact Or.inr ⟨by assumption, by assumption⟩ | omega
    · refine J_iload C 7 dX6_none_36 rfl ?_
      refine J_iload_n C 1 dX6_none_38 rfl ?_
      refine J_icmp_eq C 62 dX6_none_39 (by decide) (by omega) (by omega) (fun h4 => ?_) (fun h4 => ?_)
      · refine J_iconst C dX6_none_62 ?_
        refine J_istore (lv' := [(6, .int (iI (0))), (0, .ref (jad G 0)), (1, .int (iI (b))), (2, .int (iI (t))), (3, .int (iI (x))), (4, .int (iI (y))), (5, .int (iI (z))), (7, .int (iI (u)))]) C dX6_none_63 (by decide) rfl ?_
        refine J_iinc (lv' := [(7, .int (iI (u + 1))), (6, .int (iI (0))), (0, .ref (jad G 0)), (1, .int (iI (b))), (2, .int (iI (t))), (3, .int (iI (x))), (4, .int (iI (y))), (5, .int (iI (z)))]) C 7 dX6_none_65 rfl (by decide) rfl ?_
        refine J_goto C 22 dX6_none_68 (by decide) ?_
        refine J_lv [2, 3, 4, 5, 6, 7, 1, 0] rfl ?_
        exact ih _ (by omega) 0 (u + 1) rfl ⟨by omega, Or.inl rfl, flag_0 hB hu.1 (by omega) (fun v3 => by first | exact absurd (by assumption) v3.1 | exact absurd (by assumption) v3.2)⟩
      · refine J_aload_n C 0 dX6_none_42 rfl ?_
        refine J_iload C 7 dX6_none_43 rfl ?_
        refine J_iload_n C 1 dX6_none_45 rfl ?_
        refine J_iload_n C 2 dX6_none_46 rfl ?_
        refine J_iload_n C 3 dX6_none_47 rfl ?_
        refine J_iload C 4 dX6_none_48 rfl ?_
        refine J_iload C 5 dX6_none_50 rfl ?_
        refine J_callV (k := 0) (rest := []) C (m_poss hG S (u) (b) (t) (x) (y) (z) hk (by omega) (by omega) (by omega) (by omega) (by omega) (by omega)) kc_X6_isPossible kl_X6_207 (by rw [hG.2]; decide) (by rw [hG.1]; rfl) rfl dX6_none_52 rfl rfl (by decide) (Nat.le_of_ble_eq_true rfl) (J_ki (fun v5 S5 h5 => ?_))
        obtain ⟨rfl, rfl⟩ := h5
        refine J_if_ne_b C 62 dX6_none_55 (by decide) (fun h6 => ?_) (fun h6 => ?_)
        · refine J_iconst C dX6_none_62 ?_
          refine J_istore (lv' := [(6, .int (iI (0))), (0, .ref (jad G 0)), (1, .int (iI (b))), (2, .int (iI (t))), (3, .int (iI (x))), (4, .int (iI (y))), (5, .int (iI (z))), (7, .int (iI (u)))]) C dX6_none_63 (by decide) rfl ?_
          refine J_iinc (lv' := [(7, .int (iI (u + 1))), (6, .int (iI (0))), (0, .ref (jad G 0)), (1, .int (iI (b))), (2, .int (iI (t))), (3, .int (iI (x))), (4, .int (iI (y))), (5, .int (iI (z)))]) C 7 dX6_none_65 rfl (by decide) rfl ?_
          refine J_goto C 22 dX6_none_68 (by decide) ?_
          refine J_lv [2, 3, 4, 5, 6, 7, 1, 0] rfl ?_
          exact ih _ (by omega) 0 (u + 1) rfl ⟨by omega, Or.inl rfl, flag_0 hB hu.1 (by omega) (fun v3 => by first | exact absurd (by assumption) v3.1 | exact absurd (by assumption) v3.2)⟩
        · refine J_iconst C dX6_none_58 ?_
          refine J_goto C 63 dX6_none_59 (by decide) ?_
          refine J_istore (lv' := [(6, .int (iI (1))), (0, .ref (jad G 0)), (1, .int (iI (b))), (2, .int (iI (t))), (3, .int (iI (x))), (4, .int (iI (y))), (5, .int (iI (z))), (7, .int (iI (u)))]) C dX6_none_63 (by decide) rfl ?_
          refine J_iinc (lv' := [(7, .int (iI (u + 1))), (6, .int (iI (1))), (0, .ref (jad G 0)), (1, .int (iI (b))), (2, .int (iI (t))), (3, .int (iI (x))), (4, .int (iI (y))), (5, .int (iI (z)))]) C 7 dX6_none_65 rfl (by decide) rfl ?_
          refine J_goto C 22 dX6_none_68 (by decide) ?_
          refine J_lv [2, 3, 4, 5, 6, 7, 1, 0] rfl ?_
          refine ih _ (by omega) 1 (u + 1) rfl ⟨by omega, Or.inr rfl, flag_1 hB hu.1 ?_⟩
          by_cases hd : d = 1
          · exact Or.inl hd
          · first | exact Or.inr ⟨by assumption, by assumption⟩ | omega
theorem m_none {G : jG} (hG : mG G) (S : jMem) (b t x y z : Int) (hk : mOK S) (hb : inR b) (ht : inR t) (hx : inR x) (hy : inR y) (hz : inR z) : jM G yX6_none cX6_none 8 (some .int) 3 76 [.ref (jad G 0), .int (iI (b)), .int (iI (t)), .int (iI (x)), .int (iI (y)), .int (iI (z))] S (jPi (fun v S' => @ite Int (pplace (S 0 1) (S 1) (S 2) (S 4) b t x y z) (Classical.propDecidable _) (bb (∃ o, (0 ≤ o ∧ o < S 0 1) ∧ o ≠ b ∧ ¬ proom (S 1) (S 2) (S 4) o b t x y z)) (-1) = v ∧ S = S')) := by
  refine jM.of (by decide) (Nat.le_of_ble_eq_true rfl) (fun E C R => ?_)
  show J E G 0 [(0, .ref (jad G 0)), (1, .int (iI (b))), (2, .int (iI (t))), (3, .int (iI (x))), (4, .int (iI (y))), (5, .int (iI (z)))] [] _
  have hn := hk.1
  refine J_aload_n C 0 dX6_none_0 rfl ?_
  refine J_iload_n C 1 dX6_none_1 rfl ?_
  refine J_iload_n C 2 dX6_none_2 rfl ?_
  refine J_iload_n C 3 dX6_none_3 rfl ?_
  refine J_iload C 4 dX6_none_4 rfl ?_
  refine J_iload C 5 dX6_none_6 rfl ?_
  refine J_callV (k := 0) (rest := []) C (m_isPlace hG S (b) (t) (x) (y) (z) hk (by omega) (by omega) (by omega) (by omega) (by omega)) kc_X6_isPlace kl_X6_154 (by rw [hG.2]; decide) (by rw [hG.1]; rfl) rfl dX6_none_8 rfl rfl (by decide) (Nat.le_of_ble_eq_true rfl) (J_ki (fun v1 S1 h1 => ?_))
  obtain ⟨rfl, rfl⟩ := h1
  refine J_if_ne_b C 16 dX6_none_11 (by decide) (fun h2 => ?_) (fun h2 => ?_)
  · refine J_iconst C dX6_none_16 ?_
    refine J_istore (lv' := [(6, .int (iI (0))), (0, .ref (jad G 0)), (1, .int (iI (b))), (2, .int (iI (t))), (3, .int (iI (x))), (4, .int (iI (y))), (5, .int (iI (z)))]) C dX6_none_17 (by decide) rfl ?_
    refine J_iconst C dX6_none_19 ?_
    refine J_istore (lv' := [(7, .int (iI (0))), (6, .int (iI (0))), (0, .ref (jad G 0)), (1, .int (iI (b))), (2, .int (iI (t))), (3, .int (iI (x))), (4, .int (iI (y))), (5, .int (iI (z)))]) C dX6_none_20 (by decide) rfl ?_
    refine J_lv [2, 3, 4, 5, 6, 7, 1, 0] rfl ?_
    exact lm_none hG C S b t x y z hk (by assumption) R _ 0 0 rfl ⟨by omega, Or.inl rfl, anyB_0⟩
  · refine J_iconst C dX6_none_14 ?_
    exact J_iret R C dX6_none_15 (jPi.mk ⟨by rw [if_neg (by assumption)], rfl⟩)
theorem lm_gcd {E : jEnv} {G : jG} (hG : mG G) (C : jX E G cX6_centre 8 RX6 3 67) (S : jMem) (x p : Int) (hk : mOK S) (hl : mlOK S) (hx : 0 ≤ x ∧ x ≤ 2) (hp : 0 ≤ p ∧ p ≤ 1) (hz : ¬ mbelow S = 0) (R : jR E G (some .int) (jPi (fun v S' => (if (0 ≤ x ∧ x ≤ 2) ∧ (0 ≤ p ∧ p ≤ 1) then (if mbelow S = 0 then 0 else if p = 0 then mabove S x / zgcd (mabove S x) (mbelow S) else mbelow S / zgcd (mabove S x) (mbelow S)) else -1) = v ∧ S = S'))) : ∀ (mm : Nat) (g h : Int), mm = (h).toNat → ((0 ≤ h ∧ h ≤ 480000) ∧ (0 ≤ g ∧ g ≤ 480000) ∧ zgcd g h = zgcd (mabove S x) (mbelow S)) → J E G 107 [(0, .ref (jad G 0)), (1, .int (iI (x))), (2, .int (iI (p))), (3, .int (iI (mabove S x))), (4, .int (iI (mbelow S))), (5, .int (iI (g))), (6, .int (iI (h)))] [] S := by
  intro mm
  induction mm using Nat.strongRecOn with | ind mm ih => ?_
  intro g h hm hi
  obtain ⟨hi1, hi2, hi3⟩ := hi
  have a1 := mabove_in hk hl (x := x) (by omega)
  have a2 := mbelow_in hk
  have a3 := zgcd_pos (x := mabove S x) (y := mbelow S) (by omega)
  have a4 := zgcd_le (x := mabove S x) (y := mbelow S) (by omega)
  refine J_iload C 6 dX6_centre_107 rfl ?_
  refine J_if_le C 130 dX6_centre_109 (by decide) (by omega) (fun h1 => ?_) (fun h1 => ?_)
  · have h0 : h = 0 := by omega
    have eg : g = zgcd (mabove S x) (mbelow S) := by rw [← hi3, h0, zgcd_0 (by omega)]
    refine J_iload_n C 2 dX6_centre_130 rfl ?_
    refine J_if_ne C 141 dX6_centre_131 (by decide) (by omega) (fun h2 => ?_) (fun h2 => ?_)
    · refine J_iload C 4 dX6_centre_141 rfl ?_
      refine J_iload C 5 dX6_centre_143 rfl ?_
      refine J_idiv C dX6_centre_145 (by omega) (by omega) (by omega) (by omega) ?_
      exact J_iret R C dX6_centre_146 (jPi.mk ⟨by rw [if_pos (by omega), if_neg (by omega), ← eg]; first | rw [if_pos (by omega)] | rw [if_neg (by omega)], rfl⟩)
    · refine J_iload_n C 3 dX6_centre_134 rfl ?_
      refine J_iload C 5 dX6_centre_135 rfl ?_
      refine J_idiv C dX6_centre_137 (by omega) (by omega) (by omega) (by omega) ?_
      refine J_goto C 146 dX6_centre_138 (by decide) ?_
      exact J_iret R C dX6_centre_146 (jPi.mk ⟨by rw [if_pos (by omega), if_neg (by omega), ← eg]; first | rw [if_pos (by omega)] | rw [if_neg (by omega)], rfl⟩)
  · have hr1 := Int.emod_nonneg g (show h ≠ 0 by omega)
    have hr2 := Int.emod_lt_of_pos g (show 0 < h by omega)
    refine J_iload C 5 dX6_centre_112 rfl ?_
    refine J_iload C 6 dX6_centre_114 rfl ?_
    refine J_irem C dX6_centre_116 (by omega) (by omega) (by omega) (by omega) ?_
    refine J_istore (lv' := [(7, .int (iI ((g) % (h)))), (0, .ref (jad G 0)), (1, .int (iI (x))), (2, .int (iI (p))), (3, .int (iI (mabove S x))), (4, .int (iI (mbelow S))), (5, .int (iI (g))), (6, .int (iI (h)))]) C dX6_centre_117 (by decide) rfl ?_
    refine J_iload C 7 dX6_centre_119 rfl ?_
    refine J_istore (lv' := [(5, .int (iI (h))), (7, .int (iI ((g) % (h)))), (0, .ref (jad G 0)), (1, .int (iI (x))), (2, .int (iI (p))), (3, .int (iI (mabove S x))), (4, .int (iI (mbelow S))), (6, .int (iI (h)))]) C dX6_centre_121 (by decide) rfl ?_
    refine J_iload C 1 dX6_centre_123 rfl ?_
    refine J_istore (lv' := [(6, .int (iI ((g) % (h)))), (5, .int (iI (h))), (7, .int (iI ((g) % (h)))), (0, .ref (jad G 0)), (1, .int (iI (x))), (2, .int (iI (p))), (3, .int (iI (mabove S x))), (4, .int (iI (mbelow S)))]) C dX6_centre_125 (by decide) rfl ?_
    refine J_goto C 107 dX6_centre_127 (by decide) ?_
    refine J_lv [3, 4, 5, 6, 7, 1, 0] rfl ?_
    exact ih _ (by omega) h (g % h) rfl ⟨by omega, by omega, by rw [zgcd_step (by omega) (by omega)]; exact hi3⟩
theorem lm_cen {E : jEnv} {G : jG} (hG : mG G) (C : jX E G cX6_centre 8 RX6 3 67) (S : jMem) (x p : Int) (hk : mOK S) (hl : mlOK S) (hx : 0 ≤ x ∧ x ≤ 2) (hp : 0 ≤ p ∧ p ≤ 1) (R : jR E G (some .int) (jPi (fun v S' => (if (0 ≤ x ∧ x ≤ 2) ∧ (0 ≤ p ∧ p ≤ 1) then (if mbelow S = 0 then 0 else if p = 0 then mabove S x / zgcd (mabove S x) (mbelow S) else mbelow S / zgcd (mabove S x) (mbelow S)) else -1) = v ∧ S = S'))) : ∀ (mm : Nat) (k u v : Int), mm = (S 0 1 - k).toNat → ((0 ≤ k ∧ k ≤ S 0 1) ∧ u + isum (fun b => bb (0 < S 5 b) * (S 3 b * (S 6 (b * 3 + x) + men S (b * 3 + x)))) k (S 0 1 - k).toNat = mabove S x ∧ v + isum (fun b => bb (0 < S 5 b) * (2 * S 3 b)) k (S 0 1 - k).toNat = mbelow S) → J E G 28 [(0, .ref (jad G 0)), (1, .int (iI (x))), (2, .int (iI (p))), (3, .int (iI (u))), (4, .int (iI (v))), (5, .int (iI (k)))] [] S := by
  intro mm
  induction mm using Nat.strongRecOn with | ind mm ih => ?_
  intro k u v hm hi
  have hn := hk.1
  have a1 := mabove_in hk hl (x := x) (by omega)
  have a2 := mbelow_in hk
  refine J_iload C 5 dX6_centre_28 rfl ?_
  refine J_aload_n C 0 dX6_centre_30 rfl ?_
  refine g_X6_81 hG C dX6_centre_31 ?_
  refine J_icmp_ge C 93 dX6_centre_34 (by decide) (by omega) (by omega) (fun h1 => ?_) (fun h1 => ?_)
  · have e := isum_end (fun b => bb (0 < S 5 b) * (S 3 b * (S 6 (b * 3 + x) + men S (b * 3 + x)))) (i := k) (hi := S 0 1) (by omega)
    have e2 := isum_end (fun b => bb (0 < S 5 b) * (2 * S 3 b)) (i := k) (hi := S 0 1) (by omega)
    have eu : u = mabove S x := by omega
    have ev : v = mbelow S := by omega
    rw [eu, ev]
    refine J_iload C 4 dX6_centre_93 rfl ?_
    refine J_if_ne C 100 dX6_centre_95 (by decide) (by omega) (fun h2 => ?_) (fun h2 => ?_)
    · refine J_iload_n C 3 dX6_centre_100 rfl ?_
      refine J_istore (lv' := [(5, .int (iI (mabove S x))), (0, .ref (jad G 0)), (1, .int (iI (x))), (2, .int (iI (p))), (3, .int (iI (mabove S x))), (4, .int (iI (mbelow S)))]) C dX6_centre_101 (by decide) rfl ?_
      refine J_iload C 5 dX6_centre_103 rfl ?_
      refine J_istore (lv' := [(6, .int (iI (mbelow S))), (5, .int (iI (mabove S x))), (0, .ref (jad G 0)), (1, .int (iI (x))), (2, .int (iI (p))), (3, .int (iI (mabove S x))), (4, .int (iI (mbelow S)))]) C dX6_centre_105 (by decide) rfl ?_
      refine J_lv [2, 3, 4, 5, 6, 1, 0] rfl ?_
      exact lm_gcd hG C S x p hk hl hx hp (by assumption) R _ _ _ rfl ⟨by omega, by omega, rfl⟩
    · refine J_iconst C dX6_centre_98 ?_
      exact J_iret R C dX6_centre_99 (jPi.mk ⟨by rw [if_pos (by omega), if_pos (by omega)], rfl⟩)
  · refine J_aload_n C 0 dX6_centre_37 rfl ?_
    refine g_X6_22 hG C dX6_centre_38 ?_
    refine J_iload C 5 dX6_centre_41 rfl ?_
    refine mald hG C 5 8 (by decide) dX6_centre_43 (by omega) (by omega) ?_
    have m3 := hl.1 (k) (by omega) (by omega)
    refine J_if_le C 87 dX6_centre_44 (by decide) (by omega) (fun h4 => ?_) (fun h4 => ?_)
    · refine J_iinc (lv' := [(5, .int (iI (k + 1))), (0, .ref (jad G 0)), (1, .int (iI (x))), (2, .int (iI (p))), (3, .int (iI (u))), (4, .int (iI (v)))]) C 5 dX6_centre_87 rfl (by decide) rfl ?_
      refine J_goto C 28 dX6_centre_90 (by decide) ?_
      have e := isum_step (fun b => bb (0 < S 5 b) * (S 3 b * (S 6 (b * 3 + x) + men S (b * 3 + x)))) (i := k) (hi := S 0 1) (by omega)
      have e2 := isum_step (fun b => bb (0 < S 5 b) * (2 * S 3 b)) (i := k) (hi := S 0 1) (by omega)
      try dsimp only at e e2
      rw [bb_mul_f (by omega)] at e e2
      refine J_lv [1, 2, 3, 4, 5, 0] rfl ?_
      exact ih _ (by omega) (k + 1) _ _ rfl ⟨by omega, by omega, by omega⟩
    · refine J_iload_n C 3 dX6_centre_47 rfl ?_
      refine J_aload_n C 0 dX6_centre_48 rfl ?_
      refine g_X6_16 hG C dX6_centre_49 ?_
      refine J_iload C 5 dX6_centre_52 rfl ?_
      refine mald hG C 3 8 (by decide) dX6_centre_54 (by omega) (by omega) ?_
      refine J_aload_n C 0 dX6_centre_55 rfl ?_
      refine J_iload C 5 dX6_centre_56 rfl ?_
      refine J_iload_n C 1 dX6_centre_58 rfl ?_
      refine J_callV (k := 0) (rest := [.int (iI (S 3 (k))), .int (iI (u))]) C (m_begin hG S (k) (x) (by omega) (by omega)) kc_X6_begin kl_X6_162 (by rw [hG.2]; decide) (by rw [hG.1]; rfl) rfl dX6_centre_59 rfl rfl (by decide) (Nat.le_of_ble_eq_true rfl) (J_ki (fun v5 S5 h5 => ?_))
      obtain ⟨rfl, rfl⟩ := h5
      have q18 := hl.2.1 (k * 3 + x) (by omega) (by omega)
      refine J_aload_n C 0 dX6_centre_62 rfl ?_
      refine J_iload C 5 dX6_centre_63 rfl ?_
      refine J_iload_n C 1 dX6_centre_65 rfl ?_
      refine J_callV (k := 0) (rest := [.int (iI (S 6 (k * 3 + x))), .int (iI (S 3 (k))), .int (iI (u))]) C (m_end hG S (k) (x) (by omega) (by omega) (by omega)) kc_X6_end kl_X6_165 (by rw [hG.2]; decide) (by rw [hG.1]; rfl) rfl dX6_centre_66 rfl rfl (by decide) (Nat.le_of_ble_eq_true rfl) (J_ki (fun v6 S6 h6 => ?_))
      obtain ⟨rfl, rfl⟩ := h6
      have q19 := men_in hk hl (b := k) (x := x) (by omega) (by omega)
      refine J_iadd C dX6_centre_69 ?_
      refine J_imul C dX6_centre_70 ?_
      refine J_iadd C dX6_centre_71 ?_
      refine J_istore_n (lv' := [(3, .int (iI ((u) + ((S 3 (k)) * ((S 6 (k * 3 + x)) + (men S (k * 3 + x))))))), (0, .ref (jad G 0)), (1, .int (iI (x))), (2, .int (iI (p))), (4, .int (iI (v))), (5, .int (iI (k)))]) C dX6_centre_72 (by decide) rfl ?_
      refine J_iload C 4 dX6_centre_73 rfl ?_
      refine J_iconst C dX6_centre_75 ?_
      refine J_aload_n C 1 dX6_centre_76 rfl ?_
      refine g_X6_16 hG C dX6_centre_77 ?_
      refine J_iload C 5 dX6_centre_80 rfl ?_
      refine mald hG C 3 8 (by decide) dX6_centre_82 (by omega) (by omega) ?_
      refine J_imul C dX6_centre_83 ?_
      refine J_iadd C dX6_centre_84 ?_
      refine J_istore (lv' := [(4, .int (iI ((v) + ((2) * (S 3 (k)))))), (3, .int (iI ((u) + ((S 3 (k)) * ((S 6 (k * 3 + x)) + (men S (k * 3 + x))))))), (0, .ref (jad G 0)), (1, .int (iI (x))), (2, .int (iI (p))), (5, .int (iI (k)))]) C dX6_centre_85 (by decide) rfl ?_
      refine J_iinc (lv' := [(5, .int (iI (k + 1))), (4, .int (iI ((v) + ((2) * (S 3 (k)))))), (3, .int (iI ((u) + ((S 3 (k)) * ((S 6 (k * 3 + x)) + (men S (k * 3 + x))))))), (0, .ref (jad G 0)), (1, .int (iI (x))), (2, .int (iI (p)))]) C 5 dX6_centre_87 rfl (by decide) rfl ?_
      refine J_goto C 28 dX6_centre_90 (by decide) ?_
      have e := isum_step (fun b => bb (0 < S 5 b) * (S 3 b * (S 6 (b * 3 + x) + men S (b * 3 + x)))) (i := k) (hi := S 0 1) (by omega)
      have e2 := isum_step (fun b => bb (0 < S 5 b) * (2 * S 3 b)) (i := k) (hi := S 0 1) (by omega)
      try dsimp only at e e2
      rw [bb_mul_t (by omega)] at e e2
      refine J_lv [3, 4, 5, 2, 1, 0] rfl ?_
      exact ih _ (by omega) (k + 1) _ _ rfl ⟨by omega, by omega, by omega⟩
theorem m_centre {G : jG} (hG : mG G) (S : jMem) (x p : Int) (hk : mOK S) (hl : mlOK S) (hx : inR x) (hp : inR p) : jM G yX6_centre cX6_centre 8 (some .int) 3 67 [.ref (jad G 0), .int (iI (x)), .int (iI (p))] S (jPi (fun v S' => (if (0 ≤ x ∧ x ≤ 2) ∧ (0 ≤ p ∧ p ≤ 1) then (if mbelow S = 0 then 0 else if p = 0 then mabove S x / zgcd (mabove S x) (mbelow S) else mbelow S / zgcd (mabove S x) (mbelow S)) else -1) = v ∧ S = S')) := by
  refine jM.of (by decide) (Nat.le_of_ble_eq_true rfl) (fun E C R => ?_)
  show J E G 0 [(0, .ref (jad G 0)), (1, .int (iI (x))), (2, .int (iI (p)))] [] _
  have hn := hk.1
  refine J_iload_n C 1 dX6_centre_0 rfl ?_
  refine J_if_lt C 18 dX6_centre_1 (by decide) (by omega) (fun h1 => ?_) (fun h1 => ?_)
  · refine J_iconst C dX6_centre_18 ?_
    exact J_iret R C dX6_centre_19 (jPi.mk ⟨by rw [if_neg (by omega)], rfl⟩)
  · refine J_iload_n C 1 dX6_centre_4 rfl ?_
    refine J_iconst C dX6_centre_5 ?_
    refine J_icmp_gt C 18 dX6_centre_6 (by decide) (by omega) (by omega) (fun h2 => ?_) (fun h2 => ?_)
    · refine J_iconst C dX6_centre_18 ?_
      exact J_iret R C dX6_centre_19 (jPi.mk ⟨by rw [if_neg (by omega)], rfl⟩)
    · refine J_iload_n C 2 dX6_centre_9 rfl ?_
      refine J_if_lt C 18 dX6_centre_10 (by decide) (by omega) (fun h3 => ?_) (fun h3 => ?_)
      · refine J_iconst C dX6_centre_18 ?_
        exact J_iret R C dX6_centre_19 (jPi.mk ⟨by rw [if_neg (by omega)], rfl⟩)
      · refine J_iload_n C 2 dX6_centre_13 rfl ?_
        refine J_iconst C dX6_centre_14 ?_
        refine J_icmp_le C 20 dX6_centre_15 (by decide) (by omega) (by omega) (fun h4 => ?_) (fun h4 => ?_)
        · refine J_iconst C dX6_centre_20 ?_
          refine J_istore_n (lv' := [(3, .int (iI (0))), (0, .ref (jad G 0)), (1, .int (iI (x))), (2, .int (iI (p)))]) C dX6_centre_21 (by decide) rfl ?_
          refine J_iconst C dX6_centre_22 ?_
          refine J_istore (lv' := [(4, .int (iI (0))), (3, .int (iI (0))), (0, .ref (jad G 0)), (1, .int (iI (x))), (2, .int (iI (p)))]) C dX6_centre_23 (by decide) rfl ?_
          refine J_iconst C dX6_centre_25 ?_
          refine J_istore (lv' := [(5, .int (iI (0))), (4, .int (iI (0))), (3, .int (iI (0))), (0, .ref (jad G 0)), (1, .int (iI (x))), (2, .int (iI (p)))]) C dX6_centre_26 (by decide) rfl ?_
          refine J_lv [3, 4, 5, 2, 1, 0] rfl ?_
          exact lm_cen hG C S x p hk hl (by omega) (by omega) R _ 0 0 0 rfl ⟨by omega, by rw [Int.zero_add]; rfl, by rw [Int.zero_add]; rfl⟩
        · refine J_iconst C dX6_centre_18 ?_
          exact J_iret R C dX6_centre_19 (jPi.mk ⟨by rw [if_neg (by omega)], rfl⟩)
