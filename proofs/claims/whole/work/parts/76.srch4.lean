theorem c_lookA {G : jG} (hG : cG G) (S : jMem) (nx : Int → Int) (hk : cOK S) (hs : cS S) (hd : 0 ≤ S 6 12 ∧ S 6 12 < S 1 4) (h15 : S 6 15 = 0) (hc : cpg S nx (S 6 12)) (hp : past S nx (S 6 12)) (h16 : S 16 (S 6 12) ≠ 0) (hl : 0 < S 6 13 ∧ S 6 13 ≤ 20000) (h17 : S 17 (S 6 12) = 0) : jM G yX3_lookAlongRow cX3_lookAlongRow 4 none 2 44 [.ref (jad G 6)] S (jPv (fun S' => lkP S nx S')) := by
  refine jM.of (by decide) (Nat.le_of_ble_eq_true rfl) (fun E C R => ?_)
  show J E G 0 [(0, .ref (jad G 6))] [] _
  have hn := hk.1
  obtain ⟨⟨xt, g1⟩, gz, gy, gx, gf⟩ := id hc
  unfold cprog at g1
  have b16 : 0 ≤ S 16 (S 6 12) ∧ S 16 (S 6 12) < 2 ^ 21 := ⟨g1.2.2.1.2.2.1, g1.2.2.1.2.2.lt g1.2.1.1.1⟩
  have c16 := b16
  rw [show (2 : Int) ^ 21 = 2097152 from rfl] at c16
  have g17 := gf.1
  have b17 : S 17 (S 6 12) < 2097152 := zlt_of (k := 21) gf.1 (fun j hj q => zbit_high (k := 21) b16.1 b16.2 hj ((gf.2 j (by omega)).mp q).1)
  have z16 : 0 < zcnt (S 16 (S 6 12)) := by
    obtain ⟨m, hm⟩ := isLow.ex (x := S 16 (S 6 12)) (by omega)
    have h21 := hm.lt (k := 21) b16.1 b16.2
    have := zcnt_pos hm.2.1 (by have := hm.1; omega)
    omega
  refine J_aload_n C 0 dX3_lookAlongRow_0 rfl ?_
  refine g_X3_42 hG C dX3_lookAlongRow_1 ?_
  refine J_aload_n C 0 dX3_lookAlongRow_4 rfl ?_
  refine g_X3_105 hG C dX3_lookAlongRow_5 ?_
  refine cald hG C 17 8 (by decide) dX3_lookAlongRow_8 (by omega) (by omega) ?_
  refine J_aload_n C 0 dX3_lookAlongRow_9 rfl ?_
  refine g_X3_42 hG C dX3_lookAlongRow_10 ?_
  refine J_aload_n C 0 dX3_lookAlongRow_13 rfl ?_
  refine g_X3_105 hG C dX3_lookAlongRow_14 ?_
  refine cald hG C 17 8 (by decide) dX3_lookAlongRow_17 (by omega) (by omega) ?_
  refine J_ineg C dX3_lookAlongRow_18 ?_
  refine J_iand C (zlow (S 17 (S 6 12))) dX3_lookAlongRow_19 (iI_zlow (by omega) (by omega)) ?_
  refine J_top (b := 0) (by rw [h17]; exact zlow_0) ?_
  refine J_istore_n (lv' := [(1, .int (iI (0))), (0, .ref (jad G 6))]) C dX3_lookAlongRow_20 (by decide) rfl ?_
  refine J_iload_n C 0 dX3_lookAlongRow_21 rfl ?_
  refine J_if_ne C 37 dX3_lookAlongRow_22 (by decide) (by omega) (fun h => absurd h (by omega)) (fun _ => ?_)
  refine J_aload_n C 1 dX3_lookAlongRow_25 rfl ?_
  refine g_X3_39 hG C dX3_lookAlongRow_26 ?_
  refine J_aload_n C 1 dX3_lookAlongRow_29 rfl ?_
  refine g_X3_105 hG C dX3_lookAlongRow_30 ?_
  refine cald hG C 16 8 (by decide) dX3_lookAlongRow_33 (by omega) (by omega) ?_
  refine J_goto C 52 dX3_lookAlongRow_34 (by decide) ?_
  refine J_istore_n (lv' := [(2, .int (iI (S 16 (S 6 12)))), (1, .int (iI (0))), (0, .ref (jad G 6))]) C dX3_lookAlongRow_52 (by decide) rfl ?_
  refine J_iload_n C 0 dX3_lookAlongRow_53 rfl ?_
  refine J_callS (rest := []) C (c_bitc hG S (S 16 (S 6 12)) (by omega)) kc_J6_bitCount_0f7a4 kl_X3_90 dX3_lookAlongRow_54 rfl rfl (by decide) (Nat.le_of_ble_eq_true rfl) (J_ki (fun v2 S2 h2 => ?_))
  obtain ⟨rfl, rfl⟩ := h2
  have q1 := zcnt_nn (S 16 (S 6 12))
  refine J_istore_n (lv' := [(3, .int (iI (zcnt (S 16 (S 6 12))))), (2, .int (iI (S 16 (S 6 12)))), (1, .int (iI (0))), (0, .ref (jad G 6))]) C dX3_lookAlongRow_57 (by decide) rfl ?_
  refine J_iload_n C 0 dX3_lookAlongRow_58 rfl ?_
  refine J_aload_n C 3 dX3_lookAlongRow_59 rfl ?_
  refine g_X3_101 hG C dX3_lookAlongRow_60 ?_
  refine J_icmp_le C 71 dX3_lookAlongRow_63 (by decide) (by omega) (by omega) (fun h3 => ?_) (fun h3 => ?_)
  · refine J_aload_n C 3 dX3_lookAlongRow_71 rfl ?_
    refine J_dup C dX3_lookAlongRow_72 rfl ?_
    refine g_X3_62 hG C dX3_lookAlongRow_73 ?_
    refine J_iload_n C 0 dX3_lookAlongRow_76 rfl ?_
    refine J_iadd C dX3_lookAlongRow_77 ?_
    refine p_X3_62 hG C dX3_lookAlongRow_78 ?_
    refine J_aload_n C 3 dX3_lookAlongRow_81 rfl ?_
    refine J_dup C dX3_lookAlongRow_82 rfl ?_
    refine g_X3_101 hG C dX3_lookAlongRow_83 ?_
    refine J_top (b := S 6 13) (rd_a (by omega) (rfl)) ?_
    refine J_iload_n C 0 dX3_lookAlongRow_86 rfl ?_
    refine J_isub C dX3_lookAlongRow_87 ?_
    refine p_X3_101 hG C dX3_lookAlongRow_88 ?_
    refine J_aload_n C 3 dX3_lookAlongRow_91 rfl ?_
    refine g_X3_39 hG C dX3_lookAlongRow_92 ?_
    refine J_aload_n C 3 dX3_lookAlongRow_95 rfl ?_
    refine g_X3_105 hG C dX3_lookAlongRow_96 ?_
    refine J_top (b := S 6 12) (rd_a (by omega) (rd_a (by omega) (rfl))) ?_
    refine J_dup2 C dX3_lookAlongRow_99 rfl rfl ?_
    refine cald hG C 16 8 (by decide) dX3_lookAlongRow_100 (by omega) (by omega) ?_
    refine J_top (b := S 16 (S 6 12)) (rd_k (by decide) (rd_k (by decide) (rfl))) ?_
    refine J_iload_n C 1 dX3_lookAlongRow_101 rfl ?_
    refine J_iconst C dX3_lookAlongRow_102 ?_
    refine J_ixor C (-(S 16 (S 6 12)) - 1) dX3_lookAlongRow_103 (iI_not _) ?_
    refine J_iand C (zandn (S 16 (S 6 12)) (S 16 (S 6 12))) dX3_lookAlongRow_104 (iI_zandn (by omega) (by omega) (by omega) (by omega)) ?_
    refine cast hG C 16 8 (by decide) dX3_lookAlongRow_105 (by omega) (by omega) ?_
    refine J_aload_n C 3 dX3_lookAlongRow_106 rfl ?_
    refine g_X3_42 hG C dX3_lookAlongRow_107 ?_
    refine J_aload_n C 3 dX3_lookAlongRow_110 rfl ?_
    refine g_X3_105 hG C dX3_lookAlongRow_111 ?_
    refine J_top (b := S 6 12) (rd_k (by decide) (rd_a (by omega) (rd_a (by omega) (rfl)))) ?_
    refine J_dup2 C dX3_lookAlongRow_114 rfl rfl ?_
    refine cald hG C 17 8 (by decide) dX3_lookAlongRow_115 (by omega) (by omega) ?_
    refine J_top (b := S 17 (S 6 12)) (rd_k (by decide) (rd_k (by decide) (rd_k (by decide) (rfl)))) ?_
    refine J_iload_n C 2 dX3_lookAlongRow_116 rfl ?_
    refine J_iconst C dX3_lookAlongRow_117 ?_
    refine J_ixor C (-(0) - 1) dX3_lookAlongRow_118 (iI_not _) ?_
    refine J_iand C (zandn (S 17 (S 6 12)) (0)) dX3_lookAlongRow_119 (iI_zandn (by omega) (by omega) (by omega) (by omega)) ?_
    refine cast hG C 17 8 (by decide) dX3_lookAlongRow_120 (by omega) (by omega) ?_
    refine J_iload_n C 2 dX3_lookAlongRow_121 rfl ?_
    refine J_if_eq C 133 dX3_lookAlongRow_122 (by decide) (by omega) (fun _ => ?_) (fun h => absurd h (by omega))
    exact J_vret R C dX3_lookAlongRow_133 (jPv.mk (lkP.all hk hs hd h15 hc hp h17 z16 (by omega)))
  · refine J_aload_n C 3 dX3_lookAlongRow_66 rfl ?_
    refine J_callV (k := 6) (rest := []) C (c_lab hG S (by omega) b16 (by omega)) kc_X3_lookAtBlocked kl_X3_143 (by rw [hG.2]; decide) (by rw [hG.1]; rfl) rfl dX3_lookAlongRow_67 rfl rfl (by decide) (Nat.le_of_ble_eq_true rfl) (J_kv (fun S5 h5 => ?_))
    obtain ⟨Sk, hL, hSe⟩ := h5
    exact J_vret R C dX3_lookAlongRow_70 (jPv.mk (by rw [hSe]; exact lkP.part hk hs hd h15 hc hp hl.1 (fun f hf => by rw [h17] at hf; exact absurd hf isLow_n0) hL))
theorem c_lookB {G : jG} (hG : cG G) (S : jMem) (nx : Int → Int) (hk : cOK S) (hs : cS S) (hd : 0 ≤ S 6 12 ∧ S 6 12 < S 1 4) (h15 : S 6 15 = 0) (hc : cpg S nx (S 6 12)) (hp : past S nx (S 6 12)) (h16 : S 16 (S 6 12) ≠ 0) (hl : 0 < S 6 13 ∧ S 6 13 ≤ 20000) (h17 : S 17 (S 6 12) ≠ 0) : jM G yX3_lookAlongRow cX3_lookAlongRow 4 none 2 44 [.ref (jad G 6)] S (jPv (fun S' => lkP S nx S')) := by
  refine jM.of (by decide) (Nat.le_of_ble_eq_true rfl) (fun E C R => ?_)
  show J E G 0 [(0, .ref (jad G 6))] [] _
  have hn := hk.1
  obtain ⟨⟨xt, g1⟩, gz, gy, gx, gf⟩ := id hc
  unfold cprog at g1
  have b16 : 0 ≤ S 16 (S 6 12) ∧ S 16 (S 6 12) < 2 ^ 21 := ⟨g1.2.2.1.2.2.1, g1.2.2.1.2.2.lt g1.2.1.1.1⟩
  have c16 := b16
  rw [show (2 : Int) ^ 21 = 2097152 from rfl] at c16
  have g17 := gf.1
  have b17 : S 17 (S 6 12) < 2097152 := zlt_of (k := 21) gf.1 (fun j hj q => zbit_high (k := 21) b16.1 b16.2 hj ((gf.2 j (by omega)).mp q).1)
  have z16 : 0 < zcnt (S 16 (S 6 12)) := by
    obtain ⟨m, hm⟩ := isLow.ex (x := S 16 (S 6 12)) (by omega)
    have h21 := hm.lt (k := 21) b16.1 b16.2
    have := zcnt_pos hm.2.1 (by have := hm.1; omega)
    omega
  have p17 : 0 < S 17 (S 6 12) := by omega
  obtain ⟨f, hf⟩ := isLow.ex p17
  have hf0 := hf.1
  have f21 := hf.lt (k := 21) g17 b17
  have hpw := zpow_lt (n := f) (k := 21) hf.1 f21
  rw [show (2 : Int) ^ 21 = 2097152 from rfl] at hpw
  have hms := mask_in (L := f) hf.1 (by omega)
  rw [show (2 * 2 ^ f.toNat : Int) = 2 * (1 * 2 ^ f.toNat) by rw [Int.one_mul]] at hms
  obtain ⟨sn1, sn2, sn3⟩ := seen_sx b16 ⟨hf.1, f21⟩
  have snn := zand_nn (S 16 (S 6 12)) (2 * (1 * 2 ^ f.toNat) - 1)
  have snl := zand_le (a := S 16 (S 6 12)) (b := 2 * (1 * 2 ^ f.toNat) - 1) b16.1
  have snz := zcnt_nn (zandn (S 16 (S 6 12)) (zand (S 16 (S 6 12)) (2 * (1 * 2 ^ f.toNat) - 1)))
  refine J_aload_n C 0 dX3_lookAlongRow_0 rfl ?_
  refine g_X3_42 hG C dX3_lookAlongRow_1 ?_
  refine J_aload_n C 0 dX3_lookAlongRow_4 rfl ?_
  refine g_X3_105 hG C dX3_lookAlongRow_5 ?_
  refine cald hG C 17 8 (by decide) dX3_lookAlongRow_8 (by omega) (by omega) ?_
  refine J_aload_n C 0 dX3_lookAlongRow_9 rfl ?_
  refine g_X3_42 hG C dX3_lookAlongRow_10 ?_
  refine J_aload_n C 0 dX3_lookAlongRow_13 rfl ?_
  refine g_X3_105 hG C dX3_lookAlongRow_14 ?_
  refine cald hG C 17 8 (by decide) dX3_lookAlongRow_17 (by omega) (by omega) ?_
  refine J_ineg C dX3_lookAlongRow_18 ?_
  refine J_iand C (zlow (S 17 (S 6 12))) dX3_lookAlongRow_19 (iI_zlow (by omega) (by omega)) ?_
  refine J_top (b := 1 * 2 ^ f.toNat) (zlow_p p17 hf) ?_
  refine J_istore_n (lv' := [(1, .int (iI (1 * 2 ^ f.toNat))), (0, .ref (jad G 6))]) C dX3_lookAlongRow_20 (by decide) rfl ?_
  refine J_iload_n C 0 dX3_lookAlongRow_21 rfl ?_
  refine J_if_ne C 37 dX3_lookAlongRow_22 (by decide) (by omega) (fun _ => ?_) (fun h => absurd h (by omega))
  refine J_aload_n C 1 dX3_lookAlongRow_37 rfl ?_
  refine g_X3_39 hG C dX3_lookAlongRow_38 ?_
  refine J_aload_n C 1 dX3_lookAlongRow_41 rfl ?_
  refine g_X3_105 hG C dX3_lookAlongRow_42 ?_
  refine cald hG C 16 8 (by decide) dX3_lookAlongRow_45 (by omega) (by omega) ?_
  refine J_iconst C dX3_lookAlongRow_46 ?_
  refine J_iload_n C 0 dX3_lookAlongRow_47 rfl ?_
  refine J_imul C dX3_lookAlongRow_48 ?_
  refine J_iconst C dX3_lookAlongRow_49 ?_
  refine J_isub C dX3_lookAlongRow_50 ?_
  refine J_iand C (zand (S 16 (S 6 12)) (((2) * (1 * 2 ^ f.toNat)) - (1))) dX3_lookAlongRow_51 (iI_zand (by omega) (by omega) (by omega) (by omega)) ?_
  refine J_istore_n (lv' := [(2, .int (iI (zand (S 16 (S 6 12)) (((2) * (1 * 2 ^ f.toNat)) - (1))))), (1, .int (iI (1 * 2 ^ f.toNat))), (0, .ref (jad G 6))]) C dX3_lookAlongRow_52 (by decide) rfl ?_
  refine J_iload_n C 0 dX3_lookAlongRow_53 rfl ?_
  refine J_callS (rest := []) C (c_bitc hG S (zand (S 16 (S 6 12)) (((2) * (1 * 2 ^ f.toNat)) - (1))) (by omega)) kc_J6_bitCount_0f7a4 kl_X3_90 dX3_lookAlongRow_54 rfl rfl (by decide) (Nat.le_of_ble_eq_true rfl) (J_ki (fun v2 S2 h2 => ?_))
  obtain ⟨rfl, rfl⟩ := h2
  have q2 := zcnt_nn (zand (S 16 (S 6 12)) (((2) * (1 * 2 ^ f.toNat)) - (1)))
  refine J_istore_n (lv' := [(3, .int (iI (zcnt (zand (S 16 (S 6 12)) (((2) * (1 * 2 ^ f.toNat)) - (1)))))), (2, .int (iI (zand (S 16 (S 6 12)) (((2) * (1 * 2 ^ f.toNat)) - (1))))), (1, .int (iI (1 * 2 ^ f.toNat))), (0, .ref (jad G 6))]) C dX3_lookAlongRow_57 (by decide) rfl ?_
  refine J_iload_n C 0 dX3_lookAlongRow_58 rfl ?_
  refine J_aload_n C 3 dX3_lookAlongRow_59 rfl ?_
  refine g_X3_101 hG C dX3_lookAlongRow_60 ?_
  refine J_icmp_le C 71 dX3_lookAlongRow_63 (by decide) (by omega) (by omega) (fun h3 => ?_) (fun h3 => ?_)
  · refine J_aload_n C 3 dX3_lookAlongRow_71 rfl ?_
    refine J_dup C dX3_lookAlongRow_72 rfl ?_
    refine g_X3_62 hG C dX3_lookAlongRow_73 ?_
    refine J_iload_n C 0 dX3_lookAlongRow_76 rfl ?_
    refine J_iadd C dX3_lookAlongRow_77 ?_
    refine p_X3_62 hG C dX3_lookAlongRow_78 ?_
    refine J_aload_n C 3 dX3_lookAlongRow_81 rfl ?_
    refine J_dup C dX3_lookAlongRow_82 rfl ?_
    refine g_X3_101 hG C dX3_lookAlongRow_83 ?_
    refine J_top (b := S 6 13) (rd_a (by omega) (rfl)) ?_
    refine J_iload_n C 0 dX3_lookAlongRow_86 rfl ?_
    refine J_isub C dX3_lookAlongRow_87 ?_
    refine p_X3_101 hG C dX3_lookAlongRow_88 ?_
    refine J_aload_n C 3 dX3_lookAlongRow_91 rfl ?_
    refine g_X3_39 hG C dX3_lookAlongRow_92 ?_
    refine J_aload_n C 3 dX3_lookAlongRow_95 rfl ?_
    refine g_X3_105 hG C dX3_lookAlongRow_96 ?_
    refine J_top (b := S 6 12) (rd_a (by omega) (rd_a (by omega) (rfl))) ?_
    refine J_dup2 C dX3_lookAlongRow_99 rfl rfl ?_
    refine cald hG C 16 8 (by decide) dX3_lookAlongRow_100 (by omega) (by omega) ?_
    refine J_top (b := S 16 (S 6 12)) (rd_k (by decide) (rd_k (by decide) (rfl))) ?_
    refine J_iload_n C 1 dX3_lookAlongRow_101 rfl ?_
    refine J_iconst C dX3_lookAlongRow_102 ?_
    refine J_ixor C (-(zand (S 16 (S 6 12)) (((2) * (1 * 2 ^ f.toNat)) - (1))) - 1) dX3_lookAlongRow_103 (iI_not _) ?_
    refine J_iand C (zandn (S 16 (S 6 12)) (zand (S 16 (S 6 12)) (((2) * (1 * 2 ^ f.toNat)) - (1)))) dX3_lookAlongRow_104 (iI_zandn (by omega) (by omega) (by omega) (by omega)) ?_
    refine cast hG C 16 8 (by decide) dX3_lookAlongRow_105 (by omega) (by omega) ?_
    refine J_aload_n C 3 dX3_lookAlongRow_106 rfl ?_
    refine g_X3_42 hG C dX3_lookAlongRow_107 ?_
    refine J_aload_n C 3 dX3_lookAlongRow_110 rfl ?_
    refine g_X3_105 hG C dX3_lookAlongRow_111 ?_
    refine J_top (b := S 6 12) (rd_k (by decide) (rd_a (by omega) (rd_a (by omega) (rfl)))) ?_
    refine J_dup2 C dX3_lookAlongRow_114 rfl rfl ?_
    refine cald hG C 17 8 (by decide) dX3_lookAlongRow_115 (by omega) (by omega) ?_
    refine J_top (b := S 17 (S 6 12)) (rd_k (by decide) (rd_k (by decide) (rd_k (by decide) (rfl)))) ?_
    refine J_iload_n C 2 dX3_lookAlongRow_116 rfl ?_
    refine J_iconst C dX3_lookAlongRow_117 ?_
    refine J_ixor C (-(1 * 2 ^ f.toNat) - 1) dX3_lookAlongRow_118 (iI_not _) ?_
    refine J_iand C (zandn (S 17 (S 6 12)) (1 * 2 ^ f.toNat)) dX3_lookAlongRow_119 (iI_zandn (by omega) (by omega) (by omega) (by omega)) ?_
    refine cast hG C 17 8 (by decide) dX3_lookAlongRow_120 (by omega) (by omega) ?_
    refine J_iload_n C 2 dX3_lookAlongRow_121 rfl ?_
    refine J_if_eq C 133 dX3_lookAlongRow_122 (by decide) (by omega) (fun h => absurd h (by omega)) (fun _ => ?_)
    refine J_aload_n C 3 dX3_lookAlongRow_125 rfl ?_
    refine J_iload_n C 2 dX3_lookAlongRow_126 rfl ?_
    refine J_callN (rest := [.ref (jad G 6)]) C (c_lowest hG (up2 (up2 (up2 (up2 S 6 (14) ((S 6 14) + (zcnt (zand (S 16 (S 6 12)) (((2) * (1 * 2 ^ f.toNat)) - (1)))))) 6 (13) ((S 6 13) - (zcnt (zand (S 16 (S 6 12)) (((2) * (1 * 2 ^ f.toNat)) - (1)))))) 16 (S 6 12) (zandn (S 16 (S 6 12)) (zand (S 16 (S 6 12)) (((2) * (1 * 2 ^ f.toNat)) - (1))))) 17 (S 6 12) (zandn (S 17 (S 6 12)) (1 * 2 ^ f.toNat))) (1 * 2 ^ f.toNat) f (by omega) (isLow_pow hf.1)) kc_X5_lowest kl_X3_124 dX3_lookAlongRow_127 rfl rfl (by decide) (Nat.le_of_ble_eq_true rfl) (J_ki (fun v5 S5 h5 => ?_))
    obtain ⟨rfl, rfl⟩ := h5
    refine J_callV (k := 6) (rest := []) C (c_take hG (up2 (up2 (up2 (up2 S 6 (14) ((S 6 14) + (zcnt (zand (S 16 (S 6 12)) (((2) * (1 * 2 ^ f.toNat)) - (1)))))) 6 (13) ((S 6 13) - (zcnt (zand (S 16 (S 6 12)) (((2) * (1 * 2 ^ f.toNat)) - (1)))))) 16 (S 6 12) (zandn (S 16 (S 6 12)) (zand (S 16 (S 6 12)) (((2) * (1 * 2 ^ f.toNat)) - (1))))) 17 (S 6 12) (zandn (S 17 (S 6 12)) (1 * 2 ^ f.toNat))) (f) (cOK.eq rfl rfl rfl rfl rfl hk) hd) kc_X3_take kl_X3_146 (by rw [hG.2]; decide) (by rw [hG.1]; rfl) rfl dX3_lookAlongRow_130 rfl rfl (by decide) (Nat.le_of_ble_eq_true rfl) (J_kv (fun S6 h6 => ?_))
    have hTk := h6
    exact J_vret R C dX3_lookAlongRow_133 (jPv.mk (lkP.free hk hs hd h15 hc hp p17 hf sn2 (by omega) hTk))
  · refine J_aload_n C 3 dX3_lookAlongRow_66 rfl ?_
    refine J_callV (k := 6) (rest := []) C (c_lab hG S (by omega) b16 (by omega)) kc_X3_lookAtBlocked kl_X3_143 (by rw [hG.2]; decide) (by rw [hG.1]; rfl) rfl dX3_lookAlongRow_67 rfl rfl (by decide) (Nat.le_of_ble_eq_true rfl) (J_kv (fun S7 h7 => ?_))
    obtain ⟨Sk, hL, hSe⟩ := h7
    exact J_vret R C dX3_lookAlongRow_70 (jPv.mk (by rw [hSe]; exact lkP.part hk hs hd h15 hc hp hl.1 (fun f2 hf2 => by rw [hf2.uniq hf, ← sn2]; omega) hL))
theorem c_look {G : jG} (hG : cG G) (S : jMem) (nx : Int → Int) (hk : cOK S) (hs : cS S) (hd : 0 ≤ S 6 12 ∧ S 6 12 < S 1 4) (h15 : S 6 15 = 0) (hc : cpg S nx (S 6 12)) (hp : past S nx (S 6 12)) (h16 : S 16 (S 6 12) ≠ 0) (hl : 0 < S 6 13 ∧ S 6 13 ≤ 20000) : jM G yX3_lookAlongRow cX3_lookAlongRow 4 none 2 44 [.ref (jad G 6)] S (jPv (fun S' => lkP S nx S')) := by
  by_cases h17 : S 17 (S 6 12) = 0
  · exact c_lookA hG S nx hk hs hd h15 hc hp h16 hl h17
  · exact c_lookB hG S nx hk hs hd h15 hc hp h16 hl h17
theorem l_goOn {E : jEnv} {G : jG} (hG : cG G) (C : jX E G cX3_goOn 3 RX3 5 112) (S0 : jMem) (s0 : sst) (hk0 : cOK S0) (hs0 : cS S0) (Q : Int → jMem → Prop) (hQ : ∀ v S', (∃ s', sEnd (sstep (S0 1 4) (S0 2) (S0 3) (S0 4) (S0 7)) s0 s' ∧ crel S' s' ∧ v = s'.1 ∧ keeps [6, 9, 10, 11, 12, 13, 14, 15, 16, 17] S0 S') → Q v S') (R : jR E G (some .int) (jPi (fun v S' => Q v S'))) : ∀ (mm : Nat) (st : Int) (S : jMem), mm = (1000000 - st).toNat → goI S0 s0 st S → J E G 7 [(0, .ref (jad G 6)), (2, .int (iI (st)))] [] S := by
  intro mm
  induction mm using Nat.strongRecOn with | ind mm ih => ?_
  intro st S hm hj
  obtain ⟨hb1, hb2, hb3⟩ := hj.bd
  refine J_iload_n C 1 dX3_goOn_7 rfl ?_
  refine J_ldc (n := 1000000) C kk_X3_104 dX3_goOn_8 ?_
  refine J_icmp_ge C 66 dX3_goOn_10 (by decide) (by omega) (by omega) (fun h => absurd h (by omega)) (fun _ => ?_)
  refine J_aload_n C 0 dX3_goOn_13 rfl ?_
  refine g_X3_65 hG C dX3_goOn_14 ?_
  refine J_if_ne C 66 dX3_goOn_17 (by decide) (by omega) (fun h2 => ?_) (fun h2 => ?_)
  · refine J_aload_n C 0 dX3_goOn_66 rfl ?_
    refine g_X3_65 hG C dX3_goOn_67 ?_
    exact J_iret R C dX3_goOn_70 (jPi.mk (hQ _ _ (hj.fin (by omega))))
  · have s15 : S 6 15 = 0 := by omega
    obtain ⟨hk, hs⟩ := hj.ok hk0 hs0
    obtain ⟨hd, -⟩ := hj.pre s15
    obtain ⟨nx, ⟨hp, hc⟩, hr, hkk, hst⟩ := hj.un s15
    have hn := hk.1
    have w16 := hj.w s15 hk
    rw [show (2 : Int) ^ 21 = 2097152 from rfl] at w16
    refine J_aload_n C 0 dX3_goOn_20 rfl ?_
    refine g_X3_39 hG C dX3_goOn_21 ?_
    refine J_aload_n C 0 dX3_goOn_24 rfl ?_
    refine g_X3_105 hG C dX3_goOn_25 ?_
    refine cald hG C 16 8 (by decide) dX3_goOn_28 (by omega) (by omega) ?_
    refine J_if_eq C 49 dX3_goOn_29 (by decide) (by omega) (fun h3 => ?_) (fun h3 => ?_)
    · refine J_aload_n C 0 dX3_goOn_49 rfl ?_
      refine J_callV (k := 6) (rest := []) C (c_nextRow hG S nx hk hs hd hp hc (by assumption)) kc_X3_nextRow kl_X3_111 (by rw [hG.2]; decide) (by rw [hG.1]; rfl) rfl dX3_goOn_50 rfl rfl (by decide) (Nat.le_of_ble_eq_true rfl) (J_ki (fun v4 S4 h4 => ?_))
      have hv01 : v4 = 0 ∨ v4 = 1 := h4.elim (fun q => Or.inr q.1) (fun q => Or.inl q.1)
      have hNR := h4
      refine J_if_ne C 60 dX3_goOn_53 (by decide) (by omega) (fun h5 => ?_) (fun h5 => ?_)
      · have hR := hNR.elim (fun q => hj.row s15 (by assumption) hr hkk hst hd hp q.2.1 q.2.2.1 q.2.2.2) (fun q => absurd q.1 (by omega))
        refine J_iinc (lv' := [(2, .int (iI (st + 1))), (0, .ref (jad G 6))]) C 1 dX3_goOn_60 rfl (by decide) rfl ?_
        refine J_goto C 7 dX3_goOn_63 (by decide) ?_
        refine J_lv [1, 0] rfl ?_
        exact ih _ (by omega) (st + 1) _ rfl hR
      · obtain ⟨hw6, hSe⟩ := (hNR.resolve_left (fun q => absurd q.1 (by omega))).2
        refine J_aload_n C 0 dX3_goOn_56 rfl ?_
        refine J_callV (k := 6) (rest := []) C (c_goBack hG S4 (by rw [hSe]; omega)) kc_X3_goBack kl_X3_115 (by rw [hG.2]; decide) (by rw [hG.1]; rfl) rfl dX3_goOn_57 rfl rfl (by decide) (Nat.le_of_ble_eq_true rfl) (J_kv (fun S6 h6 => ?_))
        have hGB := h6
        rw [hSe] at hGB
        have hR := hj.back s15 (by assumption) hr hkk hst hd hp hw6 hGB
        refine J_iinc (lv' := [(2, .int (iI (st + 1))), (0, .ref (jad G 6))]) C 1 dX3_goOn_60 rfl (by decide) rfl ?_
        refine J_goto C 7 dX3_goOn_63 (by decide) ?_
        refine J_lv [1, 0] rfl ?_
        exact ih _ (by omega) (st + 1) _ rfl hR
    · refine J_aload_n C 0 dX3_goOn_32 rfl ?_
      refine g_X3_101 hG C dX3_goOn_33 ?_
      refine J_if_ne C 42 dX3_goOn_36 (by decide) (by omega) (fun h7 => ?_) (fun h7 => ?_)
      · refine J_aload_n C 0 dX3_goOn_42 rfl ?_
        refine J_callV (k := 6) (rest := []) C (c_look hG S nx hk hs hd s15 (hc.resolve_left (fun q => absurd q.2.2.2.1 (by assumption))) hp (by assumption) (by omega)) kc_X3_lookAlongRow kl_X3_108 (by rw [hG.2]; decide) (by rw [hG.1]; rfl) rfl dX3_goOn_43 rfl rfl (by decide) (Nat.le_of_ble_eq_true rfl) (J_kv (fun S8 h8 => ?_))
        have hR := hj.look s15 (by assumption) hr hkk hst hd.1 h8
        refine J_goto C 60 dX3_goOn_46 (by decide) ?_
        refine J_iinc (lv' := [(2, .int (iI (st + 1))), (0, .ref (jad G 6))]) C 1 dX3_goOn_60 rfl (by decide) rfl ?_
        refine J_goto C 7 dX3_goOn_63 (by decide) ?_
        refine J_lv [1, 0] rfl ?_
        exact ih _ (by omega) (st + 1) _ rfl hR
      · refine J_goto C 66 dX3_goOn_39 (by decide) ?_
        refine J_aload_n C 0 dX3_goOn_66 rfl ?_
        refine g_X3_65 hG C dX3_goOn_67 ?_
        exact J_iret R C dX3_goOn_70 (jPi.mk (hQ _ _ (hj.out (nx := nx) hk0 hs0 s15 (by assumption) (by omega))))
theorem goI.ini {S : jMem} {w : Int} {s1 s2 s3 : Int} {nx : Int → Int} (hk : cOK S) (hw : 1 ≤ w ∧ w ≤ 20000) (h : crel S (s1, s2, s3, w, nx)) : goI (up2 S 6 13 w) (s1, s2, s3, w, nx) 0 (up2 S 6 13 w) := by
  have hn := hk.1
  refine ⟨_, ?_, up2_eq _ _ _ _, by show 0 ≤ w ∧ w ≤ 20000; omega, keeps.rf, fun X hX => hX, by omega, fun q => ?_⟩
  · obtain ⟨⟨a1, a2⟩, b, c, d⟩ := h
    have ag : ∀ e, agr S (up2 S 6 13 w) e := fun e => ⟨⟨rfl, rfl, rfl, rfl, rfl⟩, ⟨rfl, rfl, rfl, rfl, rfl⟩, ⟨rfl, rfl, rfl⟩, ⟨rfl, rfl, rfl⟩, ⟨rfl, rfl, rfl⟩, ⟨rfl, rfl, rfl⟩⟩
    refine ⟨⟨by rw [up2_ne (Or.inr (by decide))]; exact a1, by rw [up2_ne (Or.inr (by decide))]; exact a2⟩, b, fun q => ?_, fun q e e1 e2 => (d q e e1 e2).agr (ag e) rfl⟩
    obtain ⟨c1, c2, c3, c4⟩ := c q
    refine ⟨c1, by rw [up2_ne (Or.inr (by decide))]; exact c2, past.agr c3 (fun e _ _ => ag e) (fun _ _ _ => rfl), ?_⟩
    rcases c4 with c4 | c4
    · exact Or.inl c4
    · exact Or.inr (c4.agr (fun e _ _ => ag e) c1.1 rfl)
  · obtain ⟨-, -, c, -⟩ := h
    have c1 := (c q).1
    dsimp only at c1
    have := bb_in (up2 S 6 13 w 16 s2 = 0)
    show 0 + bb (up2 S 6 13 w 16 s2 = 0) + s2 ≤ 3 * (20000 - w) + 9
    omega
theorem c_goOn {G : jG} (hG : cG G) (S : jMem) (w s1 s2 s3 : Int) (nx : Int → Int) (hk : cOK S) (hs : cS S) (hw : 1 ≤ w ∧ w ≤ 20000) (hc : crel S (s1, s2, s3, w, nx)) : jM G yX3_goOn cX3_goOn 3 (some .int) 5 112 [.ref (jad G 6), .int (iI (w))] S (jPi (fun v S' => ∃ s', sEnd (sstep (S 1 4) (S 2) (S 3) (S 4) (S 7)) (s1, s2, s3, w, nx) s' ∧ crel S' s' ∧ v = s'.1 ∧ keeps [6, 9, 10, 11, 12, 13, 14, 15, 16, 17] S S')) := by
  refine jM.of (by decide) (Nat.le_of_ble_eq_true rfl) (fun E C R => ?_)
  show J E G 0 [(0, .ref (jad G 6)), (1, .int (iI (w)))] [] _
  refine J_aload_n C 0 dX3_goOn_0 rfl ?_
  refine J_iload_n C 1 dX3_goOn_1 rfl ?_
  refine p_X3_101 hG C dX3_goOn_2 ?_
  refine J_iconst C dX3_goOn_5 ?_
  refine J_istore_n (lv' := [(2, .int (iI (0))), (0, .ref (jad G 6)), (1, .int (iI (w)))]) C dX3_goOn_6 (by decide) rfl ?_
  refine J_lv [1, 0] rfl ?_
  refine l_goOn hG C (up2 S 6 13 w) (s1, s2, s3, w, nx) (cOK.eq rfl rfl rfl rfl rfl hk) hs (fun v S' => ∃ s', sEnd (sstep (S 1 4) (S 2) (S 3) (S 4) (S 7)) (s1, s2, s3, w, nx) s' ∧ crel S' s' ∧ v = s'.1 ∧ keeps [6, 9, 10, 11, 12, 13, 14, 15, 16, 17] S S') (fun v S2 ⟨s2, a1, a2, a3, a4⟩ => ⟨s2, a1, a2, a3, (keeps.rf.up (by decide) _ _).tr a4⟩) R _ 0 _ rfl (goI.ini hk hw hc)
