theorem lm_planned {E : jEnv} {G : jG} (hG : mG G) (C : jX E G cX6_isPlanned 6 RX6 2 45) (S : jMem) (b : Int) (hk : mOK S) (hb : 0 ≤ b ∧ b < 8) (hpb : plOK S b) (hd8 : 0 ≤ S 0 8 ∧ S 0 8 ≤ 8) (hq : ∀ d, 0 ≤ d → d < S 0 8 → (0 ≤ S 7 d ∧ S 7 d < 8) ∧ plOK S (S 7 d)) (R : jR E G (some .boolean) (jPi (fun v S' => bb (allAp S b (S 0 8)) = v ∧ S = S'))) : ∀ (mm : Nat) (g d : Int), mm = (S 0 8 - d).toNat → ((0 ≤ d ∧ d ≤ S 0 8) ∧ (g = 0 ∨ g = 1) ∧ g = bb (allAp S b d)) → J E G 4 [(0, .ref (jad G 0)), (1, .int (iI (b))), (2, .int (iI (g))), (3, .int (iI (d)))] [] S := by
  intro mm
  induction mm using Nat.strongRecOn with | ind mm ih => ?_
  intro g d hm hi
  obtain ⟨hd, hg, hB⟩ := hi
  refine J_iload_n C 3 dX6_isPlanned_4 rfl ?_
  refine J_aload_n C 0 dX6_isPlanned_5 rfl ?_
  refine g_X6_88 hG C dX6_isPlanned_6 ?_
  refine J_icmp_ge C 115 dX6_isPlanned_9 (by decide) (by omega) (by omega) (fun h1 => ?_) (fun h1 => ?_)
  · refine J_iload_n C 2 dX6_isPlanned_115 rfl ?_
    refine J_zret R C dX6_isPlanned_116 hg (jPi.mk ⟨?_, rfl⟩)
    rw [hB, show d = S 0 8 by omega]
  · refine J_iload_n C 2 dX6_isPlanned_12 rfl ?_
    refine J_if_eq C 115 dX6_isPlanned_13 (by decide) (by omega) (fun h2 => ?_) (fun h2 => ?_)
    · refine J_iload_n C 2 dX6_isPlanned_115 rfl ?_
      refine J_zret R C dX6_isPlanned_116 hg (jPi.mk ⟨?_, rfl⟩)
      rw [show g = 0 by omega]; exact bb_f (allAp_le (bb_0.mp (by omega)) hd.2)
    · have hA1 : allAp S b d := bb_1.mp (by omega)
      have hqd := hq d hd.1 (by omega)
      obtain ⟨hq1, hq2⟩ := hqd
      unfold plOK at hq2 hpb
      have za : S 10 (3 * b + 0) = S 10 (3 * b) := by rw [Int.add_zero]
      have zb : S 10 (3 * S 7 d + 0) = S 10 (3 * S 7 d) := by rw [Int.add_zero]
      refine J_aload_n C 0 dX6_isPlanned_16 rfl ?_
      refine g_X6_28 hG C dX6_isPlanned_17 ?_
      refine J_iload_n C 3 dX6_isPlanned_20 rfl ?_
      refine mald hG C 7 8 (by decide) dX6_isPlanned_21 (by omega) (by omega) ?_
      refine J_istore (lv' := [(4, .int (iI (S 7 (d)))), (0, .ref (jad G 0)), (1, .int (iI (b))), (2, .int (iI (g))), (3, .int (iI (d)))]) C dX6_isPlanned_22 (by decide) rfl ?_
      refine J_iconst C dX6_isPlanned_24 ?_
      refine J_istore_n (lv' := [(2, .int (iI (0))), (4, .int (iI (S 7 (d)))), (0, .ref (jad G 0)), (1, .int (iI (b))), (3, .int (iI (d)))]) C dX6_isPlanned_25 (by decide) rfl ?_
      refine J_iconst C dX6_isPlanned_26 ?_
      refine J_istore (lv' := [(5, .int (iI (0))), (2, .int (iI (0))), (4, .int (iI (S 7 (d)))), (0, .ref (jad G 0)), (1, .int (iI (b))), (3, .int (iI (d)))]) C dX6_isPlanned_27 (by decide) rfl ?_
      refine J_iload C 0 dX6_isPlanned_29 rfl ?_
      refine J_iconst C dX6_isPlanned_31 ?_
      refine J_icmp_ge C 109 dX6_isPlanned_32 (by decide) (by omega) (by omega) (fun h => absurd h (by omega)) (fun _ => ?_)
      refine J_iload_n C 1 dX6_isPlanned_35 rfl ?_
      refine J_if_ne C 97 dX6_isPlanned_36 (by decide) (by omega) (fun h => absurd h (by omega)) (fun _ => ?_)
      refine J_aload_n C 3 dX6_isPlanned_39 rfl ?_
      refine J_aload_n C 3 dX6_isPlanned_40 rfl ?_
      refine g_X6_37 hG C dX6_isPlanned_41 ?_
      refine J_iconst C dX6_isPlanned_44 ?_
      refine J_iload_n C 4 dX6_isPlanned_45 rfl ?_
      refine J_imul C dX6_isPlanned_46 ?_
      refine J_iload C 0 dX6_isPlanned_47 rfl ?_
      refine J_iadd C dX6_isPlanned_49 ?_
      refine mald hG C 10 24 (by decide) dX6_isPlanned_50 (by omega) (by omega) ?_
      refine J_aload_n C 3 dX6_isPlanned_51 rfl ?_
      refine J_iload_n C 4 dX6_isPlanned_52 rfl ?_
      refine J_aload_n C 3 dX6_isPlanned_53 rfl ?_
      refine g_X6_34 hG C dX6_isPlanned_54 ?_
      refine J_iload_n C 4 dX6_isPlanned_57 rfl ?_
      refine mald hG C 9 8 (by decide) dX6_isPlanned_58 (by omega) (by omega) ?_
      refine J_iload C 0 dX6_isPlanned_59 rfl ?_
      refine J_callV (k := 0) (rest := [.int (iI (S 10 (((3) * (b)) + (0)))), .ref (jad G 0)]) C (m_extent hG S (b) (S 9 (b)) (0) (by omega) (by omega) (by omega)) kc_X6_extent kl_X6_121 (by rw [hG.2]; decide) (by rw [hG.1]; rfl) rfl dX6_isPlanned_61 rfl rfl (by decide) (Nat.le_of_ble_eq_true rfl) (J_ki (fun v5 S5 h5 => ?_))
      obtain ⟨rfl, rfl⟩ := h5
      have q1 := pext_in hk (b := b) (t := S 9 (b)) (a := 0) (by omega) (by omega)
      refine J_aload_n C 3 dX6_isPlanned_64 rfl ?_
      refine g_X6_37 hG C dX6_isPlanned_65 ?_
      refine J_iconst C dX6_isPlanned_68 ?_
      refine J_iload C 2 dX6_isPlanned_69 rfl ?_
      refine J_imul C dX6_isPlanned_71 ?_
      refine J_iload C 0 dX6_isPlanned_72 rfl ?_
      refine J_iadd C dX6_isPlanned_74 ?_
      refine mald hG C 10 24 (by decide) dX6_isPlanned_75 (by omega) (by omega) ?_
      refine J_aload_n C 3 dX6_isPlanned_76 rfl ?_
      refine J_iload C 2 dX6_isPlanned_77 rfl ?_
      refine J_aload_n C 3 dX6_isPlanned_79 rfl ?_
      refine g_X6_34 hG C dX6_isPlanned_80 ?_
      refine J_iload C 2 dX6_isPlanned_83 rfl ?_
      refine mald hG C 9 8 (by decide) dX6_isPlanned_85 (by omega) (by omega) ?_
      refine J_iload C 0 dX6_isPlanned_86 rfl ?_
      refine J_callV (k := 0) (rest := [.int (iI (S 10 (((3) * (S 7 (d))) + (0)))), .int (iI (pext (S 2) (b) (S 9 (b)) (0))), .int (iI (S 10 (((3) * (b)) + (0)))), .ref (jad G 0)]) C (m_extent hG S (S 7 (d)) (S 9 (S 7 (d))) (0) (by omega) (by omega) (by omega)) kc_X6_extent kl_X6_121 (by rw [hG.2]; decide) (by rw [hG.1]; rfl) rfl dX6_isPlanned_88 rfl rfl (by decide) (Nat.le_of_ble_eq_true rfl) (J_ki (fun v6 S6 h6 => ?_))
      obtain ⟨rfl, rfl⟩ := h6
      have q2 := pext_in hk (b := S 7 (d)) (t := S 9 (S 7 (d))) (a := 0) (by omega) (by omega)
      refine J_callV (k := 0) (rest := []) C (m_isApart hG S (S 10 (((3) * (b)) + (0))) (pext (S 2) (b) (S 9 (b)) (0)) (S 10 (((3) * (S 7 (d))) + (0))) (pext (S 2) (S 7 (d)) (S 9 (S 7 (d))) (0)) (by omega) (by omega) (by omega) (by omega)) kc_X6_isApart kl_X6_134 (by rw [hG.2]; decide) (by rw [hG.1]; rfl) rfl dX6_isPlanned_91 rfl rfl (by decide) (Nat.le_of_ble_eq_true rfl) (J_ki (fun v7 S7 h7 => ?_))
      obtain ⟨rfl, rfl⟩ := h7
      refine J_if_eq_b C 101 dX6_isPlanned_94 (by decide) (fun h8 => ?_) (fun h8 => ?_)
      · refine J_iconst C dX6_isPlanned_101 ?_
        refine J_istore_n (lv' := [(2, .int (iI (0))), (5, .int (iI (0))), (4, .int (iI (S 7 (d)))), (0, .ref (jad G 0)), (1, .int (iI (b))), (3, .int (iI (d)))]) C dX6_isPlanned_102 (by decide) rfl ?_
        refine J_iinc (lv' := [(5, .int (iI (1))), (2, .int (iI (0))), (4, .int (iI (S 7 (d)))), (0, .ref (jad G 0)), (1, .int (iI (b))), (3, .int (iI (d)))]) C 1 dX6_isPlanned_103 rfl (by decide) rfl ?_
        refine J_goto C 29 dX6_isPlanned_106 (by decide) ?_
        refine J_iload C 0 dX6_isPlanned_29 rfl ?_
        refine J_iconst C dX6_isPlanned_31 ?_
        refine J_icmp_ge C 109 dX6_isPlanned_32 (by decide) (by omega) (by omega) (fun h => absurd h (by omega)) (fun _ => ?_)
        refine J_iload_n C 1 dX6_isPlanned_35 rfl ?_
        refine J_if_ne C 97 dX6_isPlanned_36 (by decide) (by omega) (fun h => absurd h (by omega)) (fun _ => ?_)
        refine J_aload_n C 3 dX6_isPlanned_39 rfl ?_
        refine J_aload_n C 3 dX6_isPlanned_40 rfl ?_
        refine g_X6_37 hG C dX6_isPlanned_41 ?_
        refine J_iconst C dX6_isPlanned_44 ?_
        refine J_iload_n C 4 dX6_isPlanned_45 rfl ?_
        refine J_imul C dX6_isPlanned_46 ?_
        refine J_iload C 0 dX6_isPlanned_47 rfl ?_
        refine J_iadd C dX6_isPlanned_49 ?_
        refine mald hG C 10 24 (by decide) dX6_isPlanned_50 (by omega) (by omega) ?_
        refine J_aload_n C 3 dX6_isPlanned_51 rfl ?_
        refine J_iload_n C 4 dX6_isPlanned_52 rfl ?_
        refine J_aload_n C 3 dX6_isPlanned_53 rfl ?_
        refine g_X6_34 hG C dX6_isPlanned_54 ?_
        refine J_iload_n C 4 dX6_isPlanned_57 rfl ?_
        refine mald hG C 9 8 (by decide) dX6_isPlanned_58 (by omega) (by omega) ?_
        refine J_iload C 0 dX6_isPlanned_59 rfl ?_
        refine J_callV (k := 0) (rest := [.int (iI (S 10 (((3) * (b)) + (1)))), .ref (jad G 0)]) C (m_extent hG S (b) (S 9 (b)) (1) (by omega) (by omega) (by omega)) kc_X6_extent kl_X6_121 (by rw [hG.2]; decide) (by rw [hG.1]; rfl) rfl dX6_isPlanned_61 rfl rfl (by decide) (Nat.le_of_ble_eq_true rfl) (J_ki (fun v11 S11 h11 => ?_))
        obtain ⟨rfl, rfl⟩ := h11
        have q3 := pext_in hk (b := b) (t := S 9 (b)) (a := 1) (by omega) (by omega)
        refine J_aload_n C 3 dX6_isPlanned_64 rfl ?_
        refine g_X6_37 hG C dX6_isPlanned_65 ?_
        refine J_iconst C dX6_isPlanned_68 ?_
        refine J_iload C 2 dX6_isPlanned_69 rfl ?_
        refine J_imul C dX6_isPlanned_71 ?_
        refine J_iload C 0 dX6_isPlanned_72 rfl ?_
        refine J_iadd C dX6_isPlanned_74 ?_
        refine mald hG C 10 24 (by decide) dX6_isPlanned_75 (by omega) (by omega) ?_
        refine J_aload_n C 3 dX6_isPlanned_76 rfl ?_
        refine J_iload C 2 dX6_isPlanned_77 rfl ?_
        refine J_aload_n C 3 dX6_isPlanned_79 rfl ?_
        refine g_X6_34 hG C dX6_isPlanned_80 ?_
        refine J_iload C 2 dX6_isPlanned_83 rfl ?_
        refine mald hG C 9 8 (by decide) dX6_isPlanned_85 (by omega) (by omega) ?_
        refine J_iload C 0 dX6_isPlanned_86 rfl ?_
        refine J_callV (k := 0) (rest := [.int (iI (S 10 (((3) * (S 7 (d))) + (1)))), .int (iI (pext (S 2) (b) (S 9 (b)) (1))), .int (iI (S 10 (((3) * (b)) + (1)))), .ref (jad G 0)]) C (m_extent hG S (S 7 (d)) (S 9 (S 7 (d))) (1) (by omega) (by omega) (by omega)) kc_X6_extent kl_X6_121 (by rw [hG.2]; decide) (by rw [hG.1]; rfl) rfl dX6_isPlanned_88 rfl rfl (by decide) (Nat.le_of_ble_eq_true rfl) (J_ki (fun v12 S12 h12 => ?_))
        obtain ⟨rfl, rfl⟩ := h12
        have q4 := pext_in hk (b := S 7 (d)) (t := S 9 (S 7 (d))) (a := 1) (by omega) (by omega)
        refine J_callV (k := 0) (rest := []) C (m_isApart hG S (S 10 (((3) * (b)) + (1))) (pext (S 2) (b) (S 9 (b)) (1)) (S 10 (((3) * (S 7 (d))) + (1))) (pext (S 2) (S 7 (d)) (S 9 (S 7 (d))) (1)) (by omega) (by omega) (by omega) (by omega)) kc_X6_isApart kl_X6_134 (by rw [hG.2]; decide) (by rw [hG.1]; rfl) rfl dX6_isPlanned_91 rfl rfl (by decide) (Nat.le_of_ble_eq_true rfl) (J_ki (fun v13 S13 h13 => ?_))
        obtain ⟨rfl, rfl⟩ := h13
        refine J_if_eq_b C 101 dX6_isPlanned_94 (by decide) (fun h14 => ?_) (fun h14 => ?_)
        · refine J_iconst C dX6_isPlanned_101 ?_
          refine J_istore_n (lv' := [(2, .int (iI (0))), (5, .int (iI (1))), (4, .int (iI (S 7 (d)))), (0, .ref (jad G 0)), (1, .int (iI (b))), (3, .int (iI (d)))]) C dX6_isPlanned_102 (by decide) rfl ?_
          refine J_iinc (lv' := [(5, .int (iI (2))), (2, .int (iI (0))), (4, .int (iI (S 7 (d)))), (0, .ref (jad G 0)), (1, .int (iI (b))), (3, .int (iI (d)))]) C 1 dX6_isPlanned_103 rfl (by decide) rfl ?_
          refine J_goto C 29 dX6_isPlanned_106 (by decide) ?_
          refine J_iload C 0 dX6_isPlanned_29 rfl ?_
          refine J_iconst C dX6_isPlanned_31 ?_
          refine J_icmp_ge C 109 dX6_isPlanned_32 (by decide) (by omega) (by omega) (fun h => absurd h (by omega)) (fun _ => ?_)
          refine J_iload_n C 1 dX6_isPlanned_35 rfl ?_
          refine J_if_ne C 97 dX6_isPlanned_36 (by decide) (by omega) (fun h => absurd h (by omega)) (fun _ => ?_)
          refine J_aload_n C 3 dX6_isPlanned_39 rfl ?_
          refine J_aload_n C 3 dX6_isPlanned_40 rfl ?_
          refine g_X6_37 hG C dX6_isPlanned_41 ?_
          refine J_iconst C dX6_isPlanned_44 ?_
          refine J_iload_n C 4 dX6_isPlanned_45 rfl ?_
          refine J_imul C dX6_isPlanned_46 ?_
          refine J_iload C 0 dX6_isPlanned_47 rfl ?_
          refine J_iadd C dX6_isPlanned_49 ?_
          refine mald hG C 10 24 (by decide) dX6_isPlanned_50 (by omega) (by omega) ?_
          refine J_aload_n C 3 dX6_isPlanned_51 rfl ?_
          refine J_iload_n C 4 dX6_isPlanned_52 rfl ?_
          refine J_aload_n C 3 dX6_isPlanned_53 rfl ?_
          refine g_X6_34 hG C dX6_isPlanned_54 ?_
          refine J_iload_n C 4 dX6_isPlanned_57 rfl ?_
          refine mald hG C 9 8 (by decide) dX6_isPlanned_58 (by omega) (by omega) ?_
          refine J_iload C 0 dX6_isPlanned_59 rfl ?_
          refine J_callV (k := 0) (rest := [.int (iI (S 10 (((3) * (b)) + (2)))), .ref (jad G 0)]) C (m_extent hG S (b) (S 9 (b)) (2) (by omega) (by omega) (by omega)) kc_X6_extent kl_X6_121 (by rw [hG.2]; decide) (by rw [hG.1]; rfl) rfl dX6_isPlanned_61 rfl rfl (by decide) (Nat.le_of_ble_eq_true rfl) (J_ki (fun v17 S17 h17 => ?_))
          obtain ⟨rfl, rfl⟩ := h17
          have q5 := pext_in hk (b := b) (t := S 9 (b)) (a := 2) (by omega) (by omega)
          refine J_aload_n C 3 dX6_isPlanned_64 rfl ?_
          refine g_X6_37 hG C dX6_isPlanned_65 ?_
          refine J_iconst C dX6_isPlanned_68 ?_
          refine J_iload C 2 dX6_isPlanned_69 rfl ?_
          refine J_imul C dX6_isPlanned_71 ?_
          refine J_iload C 0 dX6_isPlanned_72 rfl ?_
          refine J_iadd C dX6_isPlanned_74 ?_
          refine mald hG C 10 24 (by decide) dX6_isPlanned_75 (by omega) (by omega) ?_
          refine J_aload_n C 3 dX6_isPlanned_76 rfl ?_
          refine J_iload C 2 dX6_isPlanned_77 rfl ?_
          refine J_aload_n C 3 dX6_isPlanned_79 rfl ?_
          refine g_X6_34 hG C dX6_isPlanned_80 ?_
          refine J_iload C 2 dX6_isPlanned_83 rfl ?_
          refine mald hG C 9 8 (by decide) dX6_isPlanned_85 (by omega) (by omega) ?_
          refine J_iload C 0 dX6_isPlanned_86 rfl ?_
          refine J_callV (k := 0) (rest := [.int (iI (S 10 (((3) * (S 7 (d))) + (2)))), .int (iI (pext (S 2) (b) (S 9 (b)) (2))), .int (iI (S 10 (((3) * (b)) + (2)))), .ref (jad G 0)]) C (m_extent hG S (S 7 (d)) (S 9 (S 7 (d))) (2) (by omega) (by omega) (by omega)) kc_X6_extent kl_X6_121 (by rw [hG.2]; decide) (by rw [hG.1]; rfl) rfl dX6_isPlanned_88 rfl rfl (by decide) (Nat.le_of_ble_eq_true rfl) (J_ki (fun v18 S18 h18 => ?_))
          obtain ⟨rfl, rfl⟩ := h18
          have q6 := pext_in hk (b := S 7 (d)) (t := S 9 (S 7 (d))) (a := 2) (by omega) (by omega)
          refine J_callV (k := 0) (rest := []) C (m_isApart hG S (S 10 (((3) * (b)) + (2))) (pext (S 2) (b) (S 9 (b)) (2)) (S 10 (((3) * (S 7 (d))) + (2))) (pext (S 2) (S 7 (d)) (S 9 (S 7 (d))) (2)) (by omega) (by omega) (by omega) (by omega)) kc_X6_isApart kl_X6_134 (by rw [hG.2]; decide) (by rw [hG.1]; rfl) rfl dX6_isPlanned_91 rfl rfl (by decide) (Nat.le_of_ble_eq_true rfl) (J_ki (fun v19 S19 h19 => ?_))
          obtain ⟨rfl, rfl⟩ := h19
          refine J_if_eq_b C 101 dX6_isPlanned_94 (by decide) (fun h20 => ?_) (fun h20 => ?_)
          · refine J_iconst C dX6_isPlanned_101 ?_
            refine J_istore_n (lv' := [(2, .int (iI (0))), (5, .int (iI (2))), (4, .int (iI (S 7 (d)))), (0, .ref (jad G 0)), (1, .int (iI (b))), (3, .int (iI (d)))]) C dX6_isPlanned_102 (by decide) rfl ?_
            refine J_iinc (lv' := [(5, .int (iI (3))), (2, .int (iI (0))), (4, .int (iI (S 7 (d)))), (0, .ref (jad G 0)), (1, .int (iI (b))), (3, .int (iI (d)))]) C 1 dX6_isPlanned_103 rfl (by decide) rfl ?_
            refine J_goto C 29 dX6_isPlanned_106 (by decide) ?_
            refine J_iload C 0 dX6_isPlanned_29 rfl ?_
            refine J_iconst C dX6_isPlanned_31 ?_
            refine J_icmp_ge C 109 dX6_isPlanned_32 (by decide) (by omega) (by omega) (fun _ => ?_) (fun h => absurd h (by omega))
            refine J_iinc (lv' := [(3, .int (iI (d + 1))), (5, .int (iI (3))), (2, .int (iI (0))), (4, .int (iI (S 7 (d)))), (0, .ref (jad G 0)), (1, .int (iI (b)))]) C 5 dX6_isPlanned_109 rfl (by decide) rfl ?_
            refine J_goto C 4 dX6_isPlanned_112 (by decide) ?_
            refine J_lv [4, 5, 2, 0] rfl ?_
            exact ih _ (by omega) 0 (d + 1) rfl ⟨by omega, Or.inl rfl, (bb_f (allAp_f hd.1 (by omega) (by unfold apAt papart; omega))).symm⟩
          · refine J_iconst C dX6_isPlanned_97 ?_
            refine J_goto C 102 dX6_isPlanned_98 (by decide) ?_
            refine J_istore_n (lv' := [(2, .int (iI (1))), (5, .int (iI (2))), (4, .int (iI (S 7 (d)))), (0, .ref (jad G 0)), (1, .int (iI (b))), (3, .int (iI (d)))]) C dX6_isPlanned_102 (by decide) rfl ?_
            refine J_iinc (lv' := [(5, .int (iI (3))), (2, .int (iI (1))), (4, .int (iI (S 7 (d)))), (0, .ref (jad G 0)), (1, .int (iI (b))), (3, .int (iI (d)))]) C 1 dX6_isPlanned_103 rfl (by decide) rfl ?_
            refine J_goto C 29 dX6_isPlanned_106 (by decide) ?_
            refine J_iload C 0 dX6_isPlanned_29 rfl ?_
            refine J_iconst C dX6_isPlanned_31 ?_
            refine J_icmp_ge C 109 dX6_isPlanned_32 (by decide) (by omega) (by omega) (fun _ => ?_) (fun h => absurd h (by omega))
            refine J_iinc (lv' := [(3, .int (iI (d + 1))), (5, .int (iI (3))), (2, .int (iI (1))), (4, .int (iI (S 7 (d)))), (0, .ref (jad G 0)), (1, .int (iI (b)))]) C 5 dX6_isPlanned_109 rfl (by decide) rfl ?_
            refine J_goto C 4 dX6_isPlanned_112 (by decide) ?_
            refine J_lv [4, 5, 2, 0] rfl ?_
            exact ih _ (by omega) 1 (d + 1) rfl ⟨by omega, Or.inr rfl, (bb_t (allAp_t hA1 (by unfold apAt papart; omega))).symm⟩
        · refine J_iconst C dX6_isPlanned_97 ?_
          refine J_goto C 102 dX6_isPlanned_98 (by decide) ?_
          refine J_istore_n (lv' := [(2, .int (iI (1))), (5, .int (iI (1))), (4, .int (iI (S 7 (d)))), (0, .ref (jad G 0)), (1, .int (iI (b))), (3, .int (iI (d)))]) C dX6_isPlanned_102 (by decide) rfl ?_
          refine J_iinc (lv' := [(5, .int (iI (2))), (2, .int (iI (1))), (4, .int (iI (S 7 (d)))), (0, .ref (jad G 0)), (1, .int (iI (b))), (3, .int (iI (d)))]) C 1 dX6_isPlanned_103 rfl (by decide) rfl ?_
          refine J_goto C 29 dX6_isPlanned_106 (by decide) ?_
          refine J_iload C 0 dX6_isPlanned_29 rfl ?_
          refine J_iconst C dX6_isPlanned_31 ?_
          refine J_icmp_ge C 109 dX6_isPlanned_32 (by decide) (by omega) (by omega) (fun h => absurd h (by omega)) (fun _ => ?_)
          refine J_iload_n C 1 dX6_isPlanned_35 rfl ?_
          refine J_if_ne C 97 dX6_isPlanned_36 (by decide) (by omega) (fun _ => ?_) (fun h => absurd h (by omega))
          refine J_iconst C dX6_isPlanned_97 ?_
          refine J_goto C 102 dX6_isPlanned_98 (by decide) ?_
          refine J_istore_n (lv' := [(2, .int (iI (1))), (5, .int (iI (2))), (4, .int (iI (S 7 (d)))), (0, .ref (jad G 0)), (1, .int (iI (b))), (3, .int (iI (d)))]) C dX6_isPlanned_102 (by decide) rfl ?_
          refine J_iinc (lv' := [(5, .int (iI (3))), (2, .int (iI (1))), (4, .int (iI (S 7 (d)))), (0, .ref (jad G 0)), (1, .int (iI (b))), (3, .int (iI (d)))]) C 1 dX6_isPlanned_103 rfl (by decide) rfl ?_
          refine J_goto C 29 dX6_isPlanned_106 (by decide) ?_
          refine J_iload C 0 dX6_isPlanned_29 rfl ?_
          refine J_iconst C dX6_isPlanned_31 ?_
          refine J_icmp_ge C 109 dX6_isPlanned_32 (by decide) (by omega) (by omega) (fun _ => ?_) (fun h => absurd h (by omega))
          refine J_iinc (lv' := [(3, .int (iI (d + 1))), (5, .int (iI (3))), (2, .int (iI (1))), (4, .int (iI (S 7 (d)))), (0, .ref (jad G 0)), (1, .int (iI (b)))]) C 5 dX6_isPlanned_109 rfl (by decide) rfl ?_
          refine J_goto C 4 dX6_isPlanned_112 (by decide) ?_
          refine J_lv [4, 5, 2, 0] rfl ?_
          exact ih _ (by omega) 1 (d + 1) rfl ⟨by omega, Or.inr rfl, (bb_t (allAp_t hA1 (by unfold apAt papart; omega))).symm⟩
      · refine J_iconst C dX6_isPlanned_97 ?_
        refine J_goto C 102 dX6_isPlanned_98 (by decide) ?_
        refine J_istore_n (lv' := [(2, .int (iI (1))), (5, .int (iI (0))), (4, .int (iI (S 7 (d)))), (0, .ref (jad G 0)), (1, .int (iI (b))), (3, .int (iI (d)))]) C dX6_isPlanned_102 (by decide) rfl ?_
        refine J_iinc (lv' := [(5, .int (iI (1))), (2, .int (iI (1))), (4, .int (iI (S 7 (d)))), (0, .ref (jad G 0)), (1, .int (iI (b))), (3, .int (iI (d)))]) C 1 dX6_isPlanned_103 rfl (by decide) rfl ?_
        refine J_goto C 29 dX6_isPlanned_106 (by decide) ?_
        refine J_iload C 0 dX6_isPlanned_29 rfl ?_
        refine J_iconst C dX6_isPlanned_31 ?_
        refine J_icmp_ge C 109 dX6_isPlanned_32 (by decide) (by omega) (by omega) (fun h => absurd h (by omega)) (fun _ => ?_)
        refine J_iload_n C 1 dX6_isPlanned_35 rfl ?_
        refine J_if_ne C 97 dX6_isPlanned_36 (by decide) (by omega) (fun _ => ?_) (fun h => absurd h (by omega))
        refine J_iconst C dX6_isPlanned_97 ?_
        refine J_goto C 102 dX6_isPlanned_98 (by decide) ?_
        refine J_istore_n (lv' := [(2, .int (iI (1))), (5, .int (iI (1))), (4, .int (iI (S 7 (d)))), (0, .ref (jad G 0)), (1, .int (iI (b))), (3, .int (iI (d)))]) C dX6_isPlanned_102 (by decide) rfl ?_
        refine J_iinc (lv' := [(5, .int (iI (2))), (2, .int (iI (1))), (4, .int (iI (S 7 (d)))), (0, .ref (jad G 0)), (1, .int (iI (b))), (3, .int (iI (d)))]) C 1 dX6_isPlanned_103 rfl (by decide) rfl ?_
        refine J_goto C 29 dX6_isPlanned_106 (by decide) ?_
        refine J_iload C 0 dX6_isPlanned_29 rfl ?_
        refine J_iconst C dX6_isPlanned_31 ?_
        refine J_icmp_ge C 109 dX6_isPlanned_32 (by decide) (by omega) (by omega) (fun h => absurd h (by omega)) (fun _ => ?_)
        refine J_iload_n C 1 dX6_isPlanned_35 rfl ?_
        refine J_if_ne C 97 dX6_isPlanned_36 (by decide) (by omega) (fun _ => ?_) (fun h => absurd h (by omega))
        refine J_iconst C dX6_isPlanned_97 ?_
        refine J_goto C 102 dX6_isPlanned_98 (by decide) ?_
        refine J_istore_n (lv' := [(2, .int (iI (1))), (5, .int (iI (2))), (4, .int (iI (S 7 (d)))), (0, .ref (jad G 0)), (1, .int (iI (b))), (3, .int (iI (d)))]) C dX6_isPlanned_102 (by decide) rfl ?_
        refine J_iinc (lv' := [(5, .int (iI (3))), (2, .int (iI (1))), (4, .int (iI (S 7 (d)))), (0, .ref (jad G 0)), (1, .int (iI (b))), (3, .int (iI (d)))]) C 1 dX6_isPlanned_103 rfl (by decide) rfl ?_
        refine J_goto C 29 dX6_isPlanned_106 (by decide) ?_
        refine J_iload C 0 dX6_isPlanned_29 rfl ?_
        refine J_iconst C dX6_isPlanned_31 ?_
        refine J_icmp_ge C 109 dX6_isPlanned_32 (by decide) (by omega) (by omega) (fun _ => ?_) (fun h => absurd h (by omega))
        refine J_iinc (lv' := [(3, .int (iI (d + 1))), (5, .int (iI (3))), (2, .int (iI (1))), (4, .int (iI (S 7 (d)))), (0, .ref (jad G 0)), (1, .int (iI (b)))]) C 5 dX6_isPlanned_109 rfl (by decide) rfl ?_
        refine J_goto C 4 dX6_isPlanned_112 (by decide) ?_
        refine J_lv [4, 5, 2, 0] rfl ?_
        exact ih _ (by omega) 1 (d + 1) rfl ⟨by omega, Or.inr rfl, (bb_t (allAp_t hA1 (by unfold apAt papart; omega))).symm⟩
theorem m_planned {G : jG} (hG : mG G) (S : jMem) (b : Int) (hk : mOK S) (hb : 0 ≤ b ∧ b < 8) (hpb : plOK S b) (hd8 : 0 ≤ S 0 8 ∧ S 0 8 ≤ 8) (hq : ∀ d, 0 ≤ d → d < S 0 8 → (0 ≤ S 7 d ∧ S 7 d < 8) ∧ plOK S (S 7 d)) : jM G yX6_isPlanned cX6_isPlanned 6 (some .boolean) 2 45 [.ref (jad G 0), .int (iI (b))] S (jPi (fun v S' => bb (allAp S b (S 0 8)) = v ∧ S = S')) := by
  refine jM.of (by decide) (Nat.le_of_ble_eq_true rfl) (fun E C R => ?_)
  show J E G 0 [(0, .ref (jad G 0)), (1, .int (iI (b)))] [] _
  refine J_iconst C dX6_isPlanned_0 ?_
  refine J_istore_n (lv' := [(2, .int (iI (1))), (0, .ref (jad G 0)), (1, .int (iI (b)))]) C dX6_isPlanned_1 (by decide) rfl ?_
  refine J_iconst C dX6_isPlanned_2 ?_
  refine J_istore_n (lv' := [(3, .int (iI (0))), (2, .int (iI (1))), (0, .ref (jad G 0)), (1, .int (iI (b)))]) C dX6_isPlanned_3 (by decide) rfl ?_
  refine J_lv [2, 3, 1, 0] rfl ?_
  exact lm_planned hG C S b hk hb hpb hd8 hq R _ 1 0 rfl ⟨by omega, Or.inr rfl, (bb_t allAp_0).symm⟩
theorem runI.fin {S0 S : jMem} {s0 : sst} {l : Int} (h : runI S0 s0 l S) (h7 : S 0 7 ≠ 0) : ∃ s', sEnd (sstep (S0 0 1) (S0 1) (S0 2) (S0 4) (S0 7)) s0 s' ∧ mrel S s' ∧ S 0 7 = s'.1 ∧ keeps [0, 8, 9, 10] S0 S ∧ ∀ j, j ≠ 7 → j ≠ 8 → j ≠ 9 → S 0 j = S0 0 j := ⟨_, h.2.2.2 _ (sEnd.here (sstep_end h7)), h.2.2.1, rfl, h.1, h.2.1⟩
theorem runI.out {S0 S : jMem} {s0 : sst} {l : Int} (h : runI S0 s0 l S) (h7 : S 0 7 = 0) (hl : l = 0) (he : ¬ S 8 (S 0 8) = wsum (S 0 1) (S 1) (S 2) (S 4) (S 7 (S 0 8)) 6) : ∃ s', sEnd (sstep (S0 0 1) (S0 1) (S0 2) (S0 4) (S0 7)) s0 s' ∧ mrel S s' ∧ 0 = s'.1 ∧ keeps [0, 8, 9, 10] S0 S ∧ ∀ j, j ≠ 7 → j ≠ 8 → j ≠ 9 → S 0 j = S0 0 j := by
  subst hl
  obtain ⟨a0, a1, a2, a3, a4, a7, -⟩ := h.cells
  refine ⟨_, h.2.2.2 _ (sEnd.here ?_), h.2.2.1, h7.symm, h.1, h.2.1⟩
  rw [a0, a1, a2, a4, a7] at he
  rw [h7, sstep_out he]
theorem lm_run {E : jEnv} {G : jG} (hG : mG G) (C : jX E G cX6_run 4 RX6 3 74) (S0 : jMem) (s0 : sst) (hk : mOK S0) (hs : mS S0) (R : jR E G (some .int) (jPi (fun v S' => ∃ s', sEnd (sstep (S0 0 1) (S0 1) (S0 2) (S0 4) (S0 7)) s0 s' ∧ mrel S' s' ∧ v = s'.1 ∧ keeps [0, 8, 9, 10] S0 S' ∧ ∀ j, j ≠ 7 → j ≠ 8 → j ≠ 9 → S' 0 j = S0 0 j))) : ∀ (mm : Nat) (l : Int) (S : jMem), mm = (2 * l + S 0 8 + 2).toNat → ((0 ≤ l ∧ l ≤ 20000) ∧ runI S0 s0 l S) → J E G 16 [(0, .ref (jad G 0)), (2, .int (iI (l)))] [] S := by
  intro mm
  induction mm using Nat.strongRecOn with | ind mm ih => ?_
  intro l S hm hi
  obtain ⟨hl, hI⟩ := hi
  have hst := hI.2.2.1.2.1
  dsimp only at hst
  refine J_aload_n C 0 dX6_run_16 rfl ?_
  refine g_X6_85 hG C dX6_run_17 ?_
  refine J_if_ne C 179 dX6_run_20 (by decide) (by omega) (fun h1 => ?_) (fun h1 => ?_)
  · refine J_aload_n C 0 dX6_run_179 rfl ?_
    refine g_X6_85 hG C dX6_run_180 ?_
    exact J_iret R C dX6_run_183 (jPi.mk (hI.fin (by omega)))
  · have s7 : S 0 7 = 0 := by omega
    have hk1 := hI.ok hk
    have hs1 := hI.ms hs
    obtain ⟨hd, hp, hnb⟩ := hI.pre s7
    have hn := hk1.1
    have hb := ord_in hk1 hs1 hd
    have hwm := (wsum_in hk1 (b := (S 7 (S 0 8))) (by omega) 6 (by omega)).2
    rw [show ((6 : Nat) : Int) = 6 from rfl] at hwm
    refine J_aload_n C 0 dX6_run_23 rfl ?_
    refine g_X6_28 hG C dX6_run_24 ?_
    refine J_aload_n C 0 dX6_run_27 rfl ?_
    refine g_X6_88 hG C dX6_run_28 ?_
    refine mald hG C 7 8 (by decide) dX6_run_31 (by omega) (by omega) ?_
    refine J_istore_n (lv' := [(3, .int (iI (S 7 (S 0 8)))), (0, .ref (jad G 0)), (2, .int (iI (l)))]) C dX6_run_32 (by decide) rfl ?_
    refine J_aload_n C 1 dX6_run_33 rfl ?_
    refine g_X6_31 hG C dX6_run_34 ?_
    refine J_aload_n C 1 dX6_run_37 rfl ?_
    refine g_X6_88 hG C dX6_run_38 ?_
    refine mald hG C 8 8 (by decide) dX6_run_41 (by omega) (by omega) ?_
    refine J_aload_n C 1 dX6_run_42 rfl ?_
    refine J_iload_n C 0 dX6_run_43 rfl ?_
    refine J_callV (k := 0) (rest := [.int (iI (S 8 (S 0 8)))]) C (m_ways hG S (S 7 (S 0 8)) (by omega)) kc_X6_ways kl_X6_138 (by rw [hG.2]; decide) (by rw [hG.1]; rfl) rfl dX6_run_44 rfl rfl (by decide) (Nat.le_of_ble_eq_true rfl) (J_ki (fun v2 S2 h2 => ?_))
    obtain ⟨rfl, rfl⟩ := h2
    refine J_top (b := wsum (S 0 1) (S 1) (S 2) (S 4) (S 7 (S 0 8)) 6) (ways_sum hs1 hb) ?_
    refine J_icmp_ne C 79 dX6_run_47 (by decide) (by omega) (by omega) (fun h3 => ?_) (fun h3 => ?_)
    · refine J_iload_n C 2 dX6_run_79 rfl ?_
      refine J_if_ne C 85 dX6_run_80 (by decide) (by omega) (fun h4 => ?_) (fun h4 => ?_)
      · have hww : 0 ≤ S 8 (S 0 8) ∧ S 8 (S 0 8) < wsum (S 0 1) (S 1) (S 2) (S 4) (S 7 (S 0 8)) 6 := by omega
        obtain ⟨t, x, y, z, hW⟩ := isWay.all hk1 (by omega) hww.1 hww.2
        refine J_iinc (lv' := [(2, .int (iI (l + (-1)))), (3, .int (iI (S 7 (S 0 8)))), (0, .ref (jad G 0))]) C 2 dX6_run_85 rfl (by decide) rfl ?_
        refine J_aload_n C 2 dX6_run_88 rfl ?_
        refine J_dup C dX6_run_89 rfl ?_
        refine g_X6_91 hG C dX6_run_90 ?_
        refine J_lconst C 1 dX6_run_93 (by decide) ?_
        refine J_ladd C dX6_run_94 ?_
        refine p_X6_91 hG C dX6_run_95 ?_
        refine J_aload_n C 2 dX6_run_98 rfl ?_
        refine J_iload_n C 1 dX6_run_99 rfl ?_
        refine J_aload_n C 2 dX6_run_100 rfl ?_
        refine g_X6_31 hG C dX6_run_101 ?_
        refine J_aload_n C 2 dX6_run_104 rfl ?_
        refine g_X6_88 hG C dX6_run_105 ?_
        refine J_top (b := S 0 8) (rd_a (by omega) (rfl)) ?_
        refine J_dup2 C dX6_run_108 rfl rfl ?_
        refine mald hG C 8 8 (by decide) dX6_run_109 (by omega) (by omega) ?_
        refine J_top (b := S 8 (S 0 8)) (rd_k (by decide) (rfl)) ?_
        refine J_dup_x2 C dX6_run_110 rfl rfl rfl ?_
        refine J_iconst C dX6_run_111 ?_
        refine J_iadd C dX6_run_112 ?_
        refine mast hG C 8 8 (by decide) dX6_run_113 (by omega) (by omega) ?_
        refine J_callV (k := 0) (rest := []) C (m_goes hG (up2 (up2 S 0 (9) ((S 0 9) + (1))) 8 (S 0 8) ((S 8 (S 0 8)) + (1))) (S 7 (S 0 8)) (S 8 (S 0 8)) t x y z (hk1.eq rfl rfl rfl rfl rfl) (hs1.eq rfl rfl rfl rfl rfl rfl rfl rfl) hb hww hW) kc_X6_goes kl_X6_141 (by rw [hG.2]; decide) (by rw [hG.1]; rfl) rfl dX6_run_114 rfl rfl (by decide) (Nat.le_of_ble_eq_true rfl) (J_kv (fun S5 h5 => ?_))
        have hT : S5 = stM S t x y z := h5
        clear h5
        have f1 : S5 0 1 = S 0 1 := by rw [hT, stM.c0, fset_n _ _ (by decide)]
        have f8 : S5 0 8 = S 0 8 := by rw [hT, stM.c0, fset_n _ _ (by decide)]
        have hk2 : mOK S5 := hk1.eq f1 (by rw [hT]; exact stM.k (by decide)) (by rw [hT]; exact stM.k (by decide)) (by rw [hT]; exact stM.k (by decide)) (by rw [hT]; exact stM.k (by decide))
        have hpl := stM.plan hk1 hs1 hd hp hW (nx := fset (S 8) (S 0 8) (S 8 (S 0 8) + 1)) (fun _ _ => rfl)
        have hc7 : S5 7 = S 7 := by rw [hT]; exact stM.k (by decide)
        rw [← hT] at hpl
        have hq : ∀ d, 0 ≤ d → d < S 0 8 + 1 → (0 ≤ S5 7 d ∧ S5 7 d < 8) ∧ plOK S5 (S5 7 d) := fun d d1 d2 => by have hb2 := ord_in hk1 hs1 (d := d) (by omega); rw [hc7]; have h5 := hpl d d1 d2; rw [hc7] at h5; exact ⟨by omega, isWay.pl hk2 (by omega) h5⟩
        have hpb : plOK S5 (S 7 (S 0 8)) := by have h5 := (hq (S 0 8) hd.1 (by omega)).2; rw [hc7] at h5; exact h5
        refine J_aload_n C 2 dX6_run_117 rfl ?_
        refine J_iload_n C 1 dX6_run_118 rfl ?_
        refine J_callV (k := 0) (rest := []) C (m_planned hG S5 (S 7 (S 0 8)) hk2 (by omega) hpb (by omega) (fun d d1 d2 => hq d d1 (by omega))) kc_X6_isPlanned kl_X6_144 (by rw [hG.2]; decide) (by rw [hG.1]; rfl) rfl dX6_run_119 rfl rfl (by decide) (Nat.le_of_ble_eq_true rfl) (J_ki (fun v6 S6 h6 => ?_))
        obtain ⟨rfl, rfl⟩ := h6
        refine J_top (b := bb (allAp S5 (S 7 (S 0 8)) (S 0 8))) (by rw [f8]) ?_
        refine J_if_eq_b C 176 dX6_run_122 (by decide) (fun h7 => ?_) (fun h7 => ?_)
        · refine J_goto C 16 dX6_run_176 (by decide) ?_
          refine J_lv [2, 0] rfl ?_
          subst hT
          exact ih _ (by rw [f8]; omega) (l - 1) _ rfl ⟨by omega, hI.no hk hs s7 (by omega) (by assumption) hW (by assumption)⟩
        · refine J_aload_n C 2 dX6_run_125 rfl ?_
          refine J_dup C dX6_run_126 rfl ?_
          refine g_X6_88 hG C dX6_run_127 ?_
          refine J_iconst C dX6_run_130 ?_
          refine J_iadd C dX6_run_131 ?_
          refine p_X6_88 hG C dX6_run_132 ?_
          refine J_aload_n C 2 dX6_run_135 rfl ?_
          refine J_aload_n C 2 dX6_run_136 rfl ?_
          refine g_X6_88 hG C dX6_run_137 ?_
          refine J_top (b := (S5 0 8) + (1)) (rd_e (by omega)) ?_
          refine J_aload_n C 2 dX6_run_140 rfl ?_
          refine g_X6_81 hG C dX6_run_141 ?_
          refine J_top (b := S5 0 1) (rd_a (by omega) (rfl)) ?_
          refine J_icmp_ne C 151 dX6_run_144 (by decide) (by omega) (by omega) (fun h8 => ?_) (fun h8 => ?_)
          · refine J_iconst C dX6_run_151 ?_
            refine p_X6_85 hG C dX6_run_152 ?_
            refine J_aload_n C 2 dX6_run_155 rfl ?_
            refine g_X6_88 hG C dX6_run_156 ?_
            refine J_top (b := (S5 0 8) + (1)) (rd_a (by omega) (rd_e (by omega))) ?_
            refine J_aload_n C 2 dX6_run_159 rfl ?_
            refine g_X6_81 hG C dX6_run_160 ?_
            refine J_top (b := S5 0 1) (rd_a (by omega) (rd_a (by omega) (rfl))) ?_
            refine J_icmp_ge C 176 dX6_run_163 (by decide) (by omega) (by omega) (fun h9 => ?_) (fun h9 => ?_)
            · refine J_goto C 16 dX6_run_176 (by decide) ?_
              exfalso; omega
            · refine J_aload_n C 2 dX6_run_166 rfl ?_
              refine g_X6_31 hG C dX6_run_167 ?_
              refine J_aload_n C 2 dX6_run_170 rfl ?_
              refine g_X6_88 hG C dX6_run_171 ?_
              refine J_top (b := (S5 0 8) + (1)) (rd_a (by omega) (rd_e (by omega))) ?_
              refine J_iconst C dX6_run_174 ?_
              refine mast hG C 8 8 (by decide) dX6_run_175 (by omega) (by omega) ?_
              refine J_goto C 16 dX6_run_176 (by decide) ?_
              refine J_lv [2, 0] rfl ?_
              have hap : allAp S5 (S 7 (S 0 8)) (S 0 8) := by assumption
              subst hT
              have hR := hI.go hk hs s7 (by omega) (by assumption) hW hap (by omega)
              rw [f8]
              exact ih _ (by rw [up2_k _ _ _ (by decide), up2_a _ _ _ (by decide), up2_eq]; omega) (l - 1) _ rfl ⟨by omega, hR⟩
          · refine J_iconst C dX6_run_147 ?_
            refine J_goto C 152 dX6_run_148 (by decide) ?_
            refine p_X6_85 hG C dX6_run_152 ?_
            refine J_aload_n C 2 dX6_run_155 rfl ?_
            refine g_X6_88 hG C dX6_run_156 ?_
            refine J_top (b := (S5 0 8) + (1)) (rd_a (by omega) (rd_e (by omega))) ?_
            refine J_aload_n C 2 dX6_run_159 rfl ?_
            refine g_X6_81 hG C dX6_run_160 ?_
            refine J_top (b := S5 0 1) (rd_a (by omega) (rd_a (by omega) (rfl))) ?_
            refine J_icmp_ge C 176 dX6_run_163 (by decide) (by omega) (by omega) (fun h10 => ?_) (fun h10 => ?_)
            · refine J_goto C 16 dX6_run_176 (by decide) ?_
              refine J_lv [2, 0] rfl ?_
              have hap : allAp S5 (S 7 (S 0 8)) (S 0 8) := by assumption
              subst hT
              have hR := hI.full hk hs s7 (by omega) (by assumption) hW hap (by omega)
              rw [f8]
              exact ih _ (by rw [up2_a _ _ _ (by decide), up2_eq]; omega) (l - 1) _ rfl ⟨by omega, hR⟩
            · refine J_aload_n C 2 dX6_run_166 rfl ?_
              refine g_X6_31 hG C dX6_run_167 ?_
              refine J_aload_n C 2 dX6_run_170 rfl ?_
              refine g_X6_88 hG C dX6_run_171 ?_
              refine J_top (b := (S5 0 8) + (1)) (rd_a (by omega) (rd_e (by omega))) ?_
              refine J_iconst C dX6_run_174 ?_
              refine mast hG C 8 8 (by decide) dX6_run_175 (by omega) (by omega) ?_
              refine J_goto C 16 dX6_run_176 (by decide) ?_
              exfalso; omega
      · refine J_iconst C dX6_run_83 ?_
        exact J_iret R C dX6_run_84 (jPi.mk (hI.out s7 (by omega) (by assumption)))
    · refine J_aload_n C 1 dX6_run_50 rfl ?_
      refine J_dup C dX6_run_51 rfl ?_
      refine g_X6_88 hG C dX6_run_52 ?_
      refine J_iconst C dX6_run_55 ?_
      refine J_isub C dX6_run_56 ?_
      refine p_X6_88 hG C dX6_run_57 ?_
      refine J_aload_n C 1 dX6_run_60 rfl ?_
      refine J_aload_n C 1 dX6_run_61 rfl ?_
      refine g_X6_88 hG C dX6_run_62 ?_
      refine J_top (b := (S 0 8) - (1)) (rd_e (by omega)) ?_
      refine J_if_ge C 72 dX6_run_65 (by decide) (by omega) (fun h11 => ?_) (fun h11 => ?_)
      · refine J_iconst C dX6_run_72 ?_
        refine p_X6_85 hG C dX6_run_73 ?_
        refine J_goto C 176 dX6_run_76 (by decide) ?_
        refine J_goto C 16 dX6_run_176 (by decide) ?_
        refine J_lv [1, 2] rfl ?_
        have hR := hI.back (st := 0) s7 (by assumption) (by omega)
        exact ih _ (by rw [up2_a _ _ _ (by decide), up2_eq]; omega) l _ rfl ⟨hl, hR⟩
      · refine J_iconst C dX6_run_68 ?_
        refine J_goto C 73 dX6_run_69 (by decide) ?_
        refine p_X6_85 hG C dX6_run_73 ?_
        refine J_goto C 176 dX6_run_76 (by decide) ?_
        refine J_goto C 16 dX6_run_176 (by decide) ?_
        refine J_lv [1, 2] rfl ?_
        have hR := hI.back (st := 2) s7 (by assumption) (by omega)
        exact ih _ (by rw [up2_a _ _ _ (by decide), up2_eq]; omega) l _ rfl ⟨hl, hR⟩
theorem m_run {G : jG} (hG : mG G) (S0 : jMem) (w : Int) (hk : mOK S0) (hs : mS S0) (hw : inR w) (hr : mrel S0 (S0 0 7, S0 0 8, S0 0 9, w, S0 8)) : jM G yX6_run cX6_run 4 (some .int) 3 74 [.ref (jad G 0), .int (iI (w))] S0 (jPi (fun v S' => if 1 ≤ w ∧ w ≤ 20000 then ∃ s', sEnd (sstep (S0 0 1) (S0 1) (S0 2) (S0 4) (S0 7)) (S0 0 7, S0 0 8, S0 0 9, w, S0 8) s' ∧ mrel S' s' ∧ v = s'.1 ∧ keeps [0, 8, 9, 10] S0 S' ∧ ∀ j, j ≠ 7 → j ≠ 8 → j ≠ 9 → S' 0 j = S0 0 j else v = -1 ∧ S' = S0)) := by
  refine jM.of (by decide) (Nat.le_of_ble_eq_true rfl) (fun E C R => ?_)
  show J E G 0 [(0, .ref (jad G 0)), (1, .int (iI (w)))] [] _
  refine J_iload_n C 1 dX6_run_0 rfl ?_
  refine J_iconst C dX6_run_1 ?_
  refine J_icmp_lt C 12 dX6_run_2 (by decide) (by omega) (by omega) (fun h1 => ?_) (fun h1 => ?_)
  · refine J_iconst C dX6_run_12 ?_
    exact J_iret R C dX6_run_13 (jPi.mk (by rw [if_neg (by omega)]; exact ⟨rfl, rfl⟩))
  · refine J_iload_n C 1 dX6_run_5 rfl ?_
    refine J_sipush C dX6_run_6 (by decide) ?_
    refine J_icmp_le C 14 dX6_run_9 (by decide) (by omega) (by omega) (fun h2 => ?_) (fun h2 => ?_)
    · refine J_iload_n C 1 dX6_run_14 rfl ?_
      refine J_istore_n (lv' := [(2, .int (iI (w))), (0, .ref (jad G 0)), (1, .int (iI (w)))]) C dX6_run_15 (by decide) rfl ?_
      have hc : 1 ≤ w ∧ w ≤ 20000 := by omega
      simp only [if_pos hc] at R
      refine J_lv [1, 0] rfl ?_
      exact lm_run hG C S0 _ hk hs R _ w S0 rfl ⟨by omega, keeps.rf, fun _ _ _ _ => rfl, hr, fun X hX => hX⟩
    · refine J_iconst C dX6_run_12 ?_
      exact J_iret R C dX6_run_13 (jPi.mk (by rw [if_neg (by omega)]; exact ⟨rfl, rfl⟩))
