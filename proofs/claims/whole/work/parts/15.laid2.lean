theorem c_put {G : jG} (hG : cG G) (S : jMem) (b t x y z : Int) (hk : cOK S) (hl : lOK S) (hb : 0 ≤ b ∧ b < 8) (ht : 0 ≤ t ∧ t < 6) : jM G yX2_put cX2_put 8 none 1 23 [.ref (jad G 18), .int (iI (b)), .int (iI (t)), .int (iI (x)), .int (iI (y)), .int (iI (z))] S (jPv (fun S' => putS S b t x y z = S')) := by
  refine jM.of (by decide) (Nat.le_of_ble_eq_true rfl) (fun E C R => ?_)
  show J E G 0 [(0, .ref (jad G 18)), (1, .int (iI (b))), (2, .int (iI (t))), (3, .int (iI (x))), (4, .int (iI (y))), (5, .int (iI (z)))] [] _
  have hm := hl.1
  have hp := zpow_in hb.1 hb.2
  refine J_aload_n C 0 dX2_put_0 rfl ?_
  refine g_X2_9 hG C dX2_put_1 ?_
  refine J_iload_n C 1 dX2_put_4 rfl ?_
  refine J_iload_n C 2 dX2_put_5 rfl ?_
  refine cast hG C 19 8 (by decide) dX2_put_6 (by omega) (by omega) ?_
  refine J_aload_n C 0 dX2_put_7 rfl ?_
  refine g_X2_15 hG C dX2_put_8 ?_
  refine J_iload_n C 1 dX2_put_11 rfl ?_
  refine J_iconst C dX2_put_12 ?_
  refine J_imul C dX2_put_13 ?_
  refine J_iload_n C 3 dX2_put_14 rfl ?_
  refine cast hG C 20 24 (by decide) dX2_put_15 (by omega) (by omega) ?_
  refine J_aload_n C 0 dX2_put_16 rfl ?_
  refine g_X2_15 hG C dX2_put_17 ?_
  refine J_iload_n C 1 dX2_put_20 rfl ?_
  refine J_iconst C dX2_put_21 ?_
  refine J_imul C dX2_put_22 ?_
  refine J_iconst C dX2_put_23 ?_
  refine J_iadd C dX2_put_24 ?_
  refine J_iload C 4 dX2_put_25 rfl ?_
  refine cast hG C 20 24 (by decide) dX2_put_27 (by omega) (by omega) ?_
  refine J_aload_n C 0 dX2_put_28 rfl ?_
  refine g_X2_15 hG C dX2_put_29 ?_
  refine J_iload_n C 1 dX2_put_32 rfl ?_
  refine J_iconst C dX2_put_33 ?_
  refine J_imul C dX2_put_34 ?_
  refine J_iconst C dX2_put_35 ?_
  refine J_iadd C dX2_put_36 ?_
  refine J_iload C 5 dX2_put_37 rfl ?_
  refine cast hG C 20 24 (by decide) dX2_put_39 (by omega) (by omega) ?_
  refine J_iconst C dX2_put_40 ?_
  refine J_istore (lv' := [(6, .int (iI (0))), (0, .ref (jad G 18)), (1, .int (iI (b))), (2, .int (iI (t))), (3, .int (iI (x))), (4, .int (iI (y))), (5, .int (iI (z)))]) C dX2_put_41 (by decide) rfl ?_
  refine J_iload C 0 dX2_put_43 rfl ?_
  refine J_iconst C dX2_put_45 ?_
  refine J_icmp_ge C 89 dX2_put_46 (by decide) (by omega) (by omega) (fun h => absurd h (by omega)) (fun _ => ?_)
  refine J_iload_n C 2 dX2_put_49 rfl ?_
  refine J_iconst C dX2_put_50 ?_
  refine J_imul C dX2_put_51 ?_
  refine J_iload C 0 dX2_put_52 rfl ?_
  refine J_iadd C dX2_put_54 ?_
  refine J_istore (lv' := [(7, .int (iI (((b) * (3)) + (0)))), (6, .int (iI (0))), (0, .ref (jad G 18)), (1, .int (iI (b))), (2, .int (iI (t))), (3, .int (iI (x))), (4, .int (iI (y))), (5, .int (iI (z)))]) C dX2_put_55 (by decide) rfl ?_
  refine J_aload_n C 2 dX2_put_57 rfl ?_
  refine g_X2_18 hG C dX2_put_58 ?_
  refine J_iload C 0 dX2_put_61 rfl ?_
  refine J_aload_n C 2 dX2_put_63 rfl ?_
  refine g_X2_15 hG C dX2_put_64 ?_
  refine J_iload C 0 dX2_put_67 rfl ?_
  refine cald hG C 20 24 (by decide) dX2_put_69 (by omega) (by omega) ?_
  refine J_top (b := x) (rd_a (by omega) (rd_a (by omega) (rd_e (by omega)))) ?_
  refine J_aload_n C 2 dX2_put_70 rfl ?_
  refine g_X2_21 hG C dX2_put_71 ?_
  refine J_iload_n C 3 dX2_put_74 rfl ?_
  refine J_iload_n C 4 dX2_put_75 rfl ?_
  refine J_iload C 1 dX2_put_76 rfl ?_
  refine J_callV (k := 1) (rest := [.int (iI (x)), .int (iI (((b) * (3)) + (0))), .ref (jad G 21)]) C (c_extent hG (up2 (up2 (up2 (up2 S 19 (b) (t)) 20 ((b) * (3)) (x)) 20 (((b) * (3)) + (1)) (y)) 20 (((b) * (3)) + (2)) (z)) (b) (t) (0) (by omega) (by omega) (by omega)) kc_X4_extent kl_X2_29 (by rw [hG.2]; decide) (by rw [hG.1]; rfl) rfl dX2_put_78 rfl rfl (by decide) (Nat.le_of_ble_eq_true rfl) (J_ki (fun v2 S2 h2 => ?_))
  obtain ⟨rfl, rfl⟩ := h2
  refine J_top (b := pext (S 3) (b) (t) (0)) rfl ?_
  have q1 := pext_in hk (b := b) (t := t) (a := 0) (by omega) (by omega)
  refine J_iadd C dX2_put_81 ?_
  refine cast hG C 21 24 (by decide) dX2_put_82 (by omega) (by omega) ?_
  refine J_iinc (lv' := [(6, .int (iI (1))), (7, .int (iI (((b) * (3)) + (0)))), (0, .ref (jad G 18)), (1, .int (iI (b))), (2, .int (iI (t))), (3, .int (iI (x))), (4, .int (iI (y))), (5, .int (iI (z)))]) C 1 dX2_put_83 rfl (by decide) rfl ?_
  refine J_goto C 43 dX2_put_86 (by decide) ?_
  refine J_iload C 0 dX2_put_43 rfl ?_
  refine J_iconst C dX2_put_45 ?_
  refine J_icmp_ge C 89 dX2_put_46 (by decide) (by omega) (by omega) (fun h => absurd h (by omega)) (fun _ => ?_)
  refine J_iload_n C 3 dX2_put_49 rfl ?_
  refine J_iconst C dX2_put_50 ?_
  refine J_imul C dX2_put_51 ?_
  refine J_iload C 0 dX2_put_52 rfl ?_
  refine J_iadd C dX2_put_54 ?_
  refine J_istore (lv' := [(7, .int (iI (((b) * (3)) + (1)))), (6, .int (iI (1))), (0, .ref (jad G 18)), (1, .int (iI (b))), (2, .int (iI (t))), (3, .int (iI (x))), (4, .int (iI (y))), (5, .int (iI (z)))]) C dX2_put_55 (by decide) rfl ?_
  refine J_aload_n C 2 dX2_put_57 rfl ?_
  refine g_X2_18 hG C dX2_put_58 ?_
  refine J_iload C 0 dX2_put_61 rfl ?_
  refine J_aload_n C 2 dX2_put_63 rfl ?_
  refine g_X2_15 hG C dX2_put_64 ?_
  refine J_iload C 0 dX2_put_67 rfl ?_
  refine cald hG C 20 24 (by decide) dX2_put_69 (by omega) (by omega) ?_
  refine J_top (b := y) (rd_k (by decide) (rd_a (by omega) (rd_e (by omega)))) ?_
  refine J_aload_n C 2 dX2_put_70 rfl ?_
  refine g_X2_21 hG C dX2_put_71 ?_
  refine J_iload_n C 3 dX2_put_74 rfl ?_
  refine J_iload_n C 4 dX2_put_75 rfl ?_
  refine J_iload C 1 dX2_put_76 rfl ?_
  refine J_callV (k := 1) (rest := [.int (iI (y)), .int (iI (((b) * (3)) + (1))), .ref (jad G 21)]) C (c_extent hG (up2 (up2 (up2 (up2 (up2 S 19 (b) (t)) 20 ((b) * (3)) (x)) 20 (((b) * (3)) + (1)) (y)) 20 (((b) * (3)) + (2)) (z)) 21 (((b) * (3)) + (0)) ((x) + (pext (S 3) (b) (t) (0)))) (b) (t) (1) (by omega) (by omega) (by omega)) kc_X4_extent kl_X2_29 (by rw [hG.2]; decide) (by rw [hG.1]; rfl) rfl dX2_put_78 rfl rfl (by decide) (Nat.le_of_ble_eq_true rfl) (J_ki (fun v4 S4 h4 => ?_))
  obtain ⟨rfl, rfl⟩ := h4
  refine J_top (b := pext (S 3) (b) (t) (1)) rfl ?_
  have q2 := pext_in hk (b := b) (t := t) (a := 1) (by omega) (by omega)
  refine J_iadd C dX2_put_81 ?_
  refine cast hG C 21 24 (by decide) dX2_put_82 (by omega) (by omega) ?_
  refine J_iinc (lv' := [(6, .int (iI (2))), (7, .int (iI (((b) * (3)) + (1)))), (0, .ref (jad G 18)), (1, .int (iI (b))), (2, .int (iI (t))), (3, .int (iI (x))), (4, .int (iI (y))), (5, .int (iI (z)))]) C 1 dX2_put_83 rfl (by decide) rfl ?_
  refine J_goto C 43 dX2_put_86 (by decide) ?_
  refine J_iload C 0 dX2_put_43 rfl ?_
  refine J_iconst C dX2_put_45 ?_
  refine J_icmp_ge C 89 dX2_put_46 (by decide) (by omega) (by omega) (fun h => absurd h (by omega)) (fun _ => ?_)
  refine J_iload_n C 3 dX2_put_49 rfl ?_
  refine J_iconst C dX2_put_50 ?_
  refine J_imul C dX2_put_51 ?_
  refine J_iload C 0 dX2_put_52 rfl ?_
  refine J_iadd C dX2_put_54 ?_
  refine J_istore (lv' := [(7, .int (iI (((b) * (3)) + (2)))), (6, .int (iI (2))), (0, .ref (jad G 18)), (1, .int (iI (b))), (2, .int (iI (t))), (3, .int (iI (x))), (4, .int (iI (y))), (5, .int (iI (z)))]) C dX2_put_55 (by decide) rfl ?_
  refine J_aload_n C 2 dX2_put_57 rfl ?_
  refine g_X2_18 hG C dX2_put_58 ?_
  refine J_iload C 0 dX2_put_61 rfl ?_
  refine J_aload_n C 2 dX2_put_63 rfl ?_
  refine g_X2_15 hG C dX2_put_64 ?_
  refine J_iload C 0 dX2_put_67 rfl ?_
  refine cald hG C 20 24 (by decide) dX2_put_69 (by omega) (by omega) ?_
  refine J_top (b := z) (rd_k (by decide) (rd_k (by decide) (rd_e (by omega)))) ?_
  refine J_aload_n C 2 dX2_put_70 rfl ?_
  refine g_X2_21 hG C dX2_put_71 ?_
  refine J_iload_n C 3 dX2_put_74 rfl ?_
  refine J_iload_n C 4 dX2_put_75 rfl ?_
  refine J_iload C 1 dX2_put_76 rfl ?_
  refine J_callV (k := 1) (rest := [.int (iI (z)), .int (iI (((b) * (3)) + (2))), .ref (jad G 21)]) C (c_extent hG (up2 (up2 (up2 (up2 (up2 (up2 S 19 (b) (t)) 20 ((b) * (3)) (x)) 20 (((b) * (3)) + (1)) (y)) 20 (((b) * (3)) + (2)) (z)) 21 (((b) * (3)) + (0)) ((x) + (pext (S 3) (b) (t) (0)))) 21 (((b) * (3)) + (1)) ((y) + (pext (S 3) (b) (t) (1)))) (b) (t) (2) (by omega) (by omega) (by omega)) kc_X4_extent kl_X2_29 (by rw [hG.2]; decide) (by rw [hG.1]; rfl) rfl dX2_put_78 rfl rfl (by decide) (Nat.le_of_ble_eq_true rfl) (J_ki (fun v6 S6 h6 => ?_))
  obtain ⟨rfl, rfl⟩ := h6
  refine J_top (b := pext (S 3) (b) (t) (2)) rfl ?_
  have q3 := pext_in hk (b := b) (t := t) (a := 2) (by omega) (by omega)
  refine J_iadd C dX2_put_81 ?_
  refine cast hG C 21 24 (by decide) dX2_put_82 (by omega) (by omega) ?_
  refine J_iinc (lv' := [(6, .int (iI (3))), (7, .int (iI (((b) * (3)) + (2)))), (0, .ref (jad G 18)), (1, .int (iI (b))), (2, .int (iI (t))), (3, .int (iI (x))), (4, .int (iI (y))), (5, .int (iI (z)))]) C 1 dX2_put_83 rfl (by decide) rfl ?_
  refine J_goto C 43 dX2_put_86 (by decide) ?_
  refine J_iload C 0 dX2_put_43 rfl ?_
  refine J_iconst C dX2_put_45 ?_
  refine J_icmp_ge C 89 dX2_put_46 (by decide) (by omega) (by omega) (fun _ => ?_) (fun h => absurd h (by omega))
  refine J_aload_n C 2 dX2_put_89 rfl ?_
  refine J_dup C dX2_put_90 rfl ?_
  refine g_X2_25 hG C dX2_put_91 ?_
  refine J_top (b := S 18 4) (rd_k (by decide) (rd_k (by decide) (rd_k (by decide) (rd_k (by decide) (rd_k (by decide) (rd_k (by decide) (rd_k (by decide) (rfl)))))))) ?_
  refine J_iconst C dX2_put_94 ?_
  refine J_iload_n C 3 dX2_put_95 rfl ?_
  refine J_ishl C dX2_put_96 (by omega) (by omega) ?_
  refine J_ior C (zor (S 18 4) ((1) * 2 ^ (b).toNat)) dX2_put_97 (iI_zor (by omega) (by omega) (by omega) (by omega)) ?_
  refine p_X2_25 hG C dX2_put_98 ?_
  exact J_vret R C dX2_put_101 (jPv.mk (by rfl))
theorem c_takeAway {G : jG} (hG : cG G) (S : jMem) (b : Int) (hl : lOK S) (hb : 0 ≤ b ∧ b < 8) : jM G yX2_takeAway cX2_takeAway 2 none 0 0 [.ref (jad G 18), .int (iI (b))] S (jPv (fun S' => up2 S 18 4 (zandn (S 18 4) (1 * 2 ^ b.toNat)) = S')) := by
  refine jM.of (by decide) (Nat.le_of_ble_eq_true rfl) (fun E C R => ?_)
  show J E G 0 [(0, .ref (jad G 18)), (1, .int (iI (b)))] [] _
  have hm := hl.1
  have hp := zpow_in hb.1 hb.2
  refine J_aload_n C 0 dX2_takeAway_0 rfl ?_
  refine J_dup C dX2_takeAway_1 rfl ?_
  refine g_X2_25 hG C dX2_takeAway_2 ?_
  refine J_iconst C dX2_takeAway_5 ?_
  refine J_iload_n C 1 dX2_takeAway_6 rfl ?_
  refine J_ishl C dX2_takeAway_7 (by omega) (by omega) ?_
  refine J_iconst C dX2_takeAway_8 ?_
  refine J_ixor C (-((1) * 2 ^ (b).toNat) - 1) dX2_takeAway_9 (iI_not _) ?_
  refine J_iand C (zandn (S 18 4) ((1) * 2 ^ (b).toNat)) dX2_takeAway_10 (iI_zandn (by omega) (by omega) (by omega) (by omega)) ?_
  refine p_X2_25 hG C dX2_takeAway_11 ?_
  exact J_vret R C dX2_takeAway_14 (jPv.mk (by rfl))
theorem c_takeAll {G : jG} (hG : cG G) (S : jMem) : jM G yX2_takeAllAway cX2_takeAllAway 1 none 0 0 [.ref (jad G 18)] S (jPv (fun S' => up2 S 18 4 0 = S')) := by
  refine jM.of (by decide) (Nat.le_of_ble_eq_true rfl) (fun E C R => ?_)
  show J E G 0 [(0, .ref (jad G 18))] [] _
  refine J_aload_n C 0 dX2_takeAllAway_0 rfl ?_
  refine J_iconst C dX2_takeAllAway_1 ?_
  refine p_X2_25 hG C dX2_takeAllAway_2 ?_
  exact J_vret R C dX2_takeAllAway_5 (jPv.mk (by rfl))
