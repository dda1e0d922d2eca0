theorem c_setAxis {G : jG} (hG : cG G) (S : jMem) (a f : Int) (hd : 0 ≤ S 6 12 ∧ S 6 12 < 8) (ha : 0 ≤ a ∧ a < 3) : jM G yX3_setAxis cX3_setAxis 4 none 0 0 [.ref (jad G 6), .int (iI (a)), .int (iI (f))] S (jPv (fun S' => S' = saM S a f)) := by
  refine jM.of (by decide) (Nat.le_of_ble_eq_true rfl) (fun E C R => ?_)
  show J E G 0 [(0, .ref (jad G 6)), (1, .int (iI (a))), (2, .int (iI (f)))] [] _
  refine J_aload_n C 0 dX3_setAxis_0 rfl ?_
  refine g_X3_105 hG C dX3_setAxis_1 ?_
  refine J_iconst C dX3_setAxis_4 ?_
  refine J_imul C dX3_setAxis_5 ?_
  refine J_iload_n C 1 dX3_setAxis_6 rfl ?_
  refine J_iadd C dX3_setAxis_7 ?_
  refine J_istore_n (lv' := [(3, .int (iI (((S 6 12) * (3)) + (a)))), (0, .ref (jad G 6)), (1, .int (iI (a))), (2, .int (iI (f)))]) C dX3_setAxis_8 (by decide) rfl ?_
  refine J_aload_n C 1 dX3_setAxis_9 rfl ?_
  refine g_X3_27 hG C dX3_setAxis_10 ?_
  refine J_iload_n C 0 dX3_setAxis_13 rfl ?_
  refine J_iload_n C 3 dX3_setAxis_14 rfl ?_
  refine cast hG C 12 24 (by decide) dX3_setAxis_15 (by omega) (by omega) ?_
  refine J_aload_n C 1 dX3_setAxis_16 rfl ?_
  refine g_X3_30 hG C dX3_setAxis_17 ?_
  refine J_iload_n C 0 dX3_setAxis_20 rfl ?_
  refine J_iload_n C 3 dX3_setAxis_21 rfl ?_
  refine J_aload_n C 1 dX3_setAxis_22 rfl ?_
  refine g_X3_21 hG C dX3_setAxis_23 ?_
  refine J_iload_n C 0 dX3_setAxis_26 rfl ?_
  refine cald hG C 10 24 (by decide) dX3_setAxis_27 (by omega) (by omega) ?_
  refine J_top (b := S 10 (((S 6 12) * (3)) + (a))) (rd_k (by decide) (rfl)) ?_
  refine J_iadd C dX3_setAxis_28 ?_
  refine cast hG C 13 24 (by decide) dX3_setAxis_29 (by omega) (by omega) ?_
  exact J_vret R C dX3_setAxis_30 (jPv.mk (by rfl))
theorem c_turnTo {G : jG} (hG : cG G) (S : jMem) (b t : Int) (hk : cOK S) (hs : cS S) (hd : 0 ≤ S 6 12 ∧ S 6 12 < S 1 4) (hb : 0 ≤ b ∧ b < S 1 4) (ht : 0 ≤ t ∧ t < 6) (hsh : pshort (S 2) (S 3) b t) : jM G yX3_turnTo cX3_turnTo 4 none 2 47 [.ref (jad G 6), .int (iI (b)), .int (iI (t))] S (jPv (fun S' => ∃ v0 v1 v2, (wcA (S 1 4) (S 2) (S 3) (S 4) b t 0 v0 ∧ wcA (S 1 4) (S 2) (S 3) (S 4) b t 1 v1 ∧ wcA (S 1 4) (S 2) (S 3) (S 4) b t 2 v2) ∧ S' = ttM S b t v0 v1 v2)) := by
  refine jM.of (by decide) (Nat.le_of_ble_eq_true rfl) (fun E C R => ?_)
  show J E G 0 [(0, .ref (jad G 6)), (1, .int (iI (b))), (2, .int (iI (t)))] [] _
  have hn := hk.1
  refine J_aload_n C 0 dX3_turnTo_0 rfl ?_
  refine g_X3_18 hG C dX3_turnTo_1 ?_
  refine J_aload_n C 0 dX3_turnTo_4 rfl ?_
  refine g_X3_105 hG C dX3_turnTo_5 ?_
  refine J_iload_n C 2 dX3_turnTo_8 rfl ?_
  refine cast hG C 9 8 (by decide) dX3_turnTo_9 (by omega) (by omega) ?_
  refine J_iconst C dX3_turnTo_10 ?_
  refine J_istore_n (lv' := [(3, .int (iI (0))), (0, .ref (jad G 6)), (1, .int (iI (b))), (2, .int (iI (t)))]) C dX3_turnTo_11 (by decide) rfl ?_
  refine J_iload_n C 0 dX3_turnTo_12 rfl ?_
  refine J_iconst C dX3_turnTo_13 ?_
  refine J_icmp_ge C 66 dX3_turnTo_14 (by decide) (by omega) (by omega) (fun h => absurd h (by omega)) (fun _ => ?_)
  refine J_aload_n C 1 dX3_turnTo_17 rfl ?_
  refine g_X3_21 hG C dX3_turnTo_18 ?_
  refine J_aload_n C 1 dX3_turnTo_21 rfl ?_
  refine g_X3_105 hG C dX3_turnTo_22 ?_
  refine J_top (b := S 6 12) (rd_k (by decide) (rfl)) ?_
  refine J_iconst C dX3_turnTo_25 ?_
  refine J_imul C dX3_turnTo_26 ?_
  refine J_iload_n C 0 dX3_turnTo_27 rfl ?_
  refine J_iadd C dX3_turnTo_28 ?_
  refine J_aload_n C 1 dX3_turnTo_29 rfl ?_
  refine g_X3_45 hG C dX3_turnTo_30 ?_
  refine J_iload_n C 2 dX3_turnTo_33 rfl ?_
  refine J_iload_n C 3 dX3_turnTo_34 rfl ?_
  refine J_iload_n C 0 dX3_turnTo_35 rfl ?_
  refine J_callV (k := 1) (rest := [.int (iI (((S 6 12) * (3)) + (0))), .ref (jad G 10)]) C (c_extent hG (up2 S 9 (S 6 12) (t)) (b) (t) (0) (by omega) (by omega) (by omega)) kc_X4_extent kl_X3_87 (by rw [hG.2]; decide) (by rw [hG.1]; rfl) rfl dX3_turnTo_36 rfl rfl (by decide) (Nat.le_of_ble_eq_true rfl) (J_ki (fun v2 S2 h2 => ?_))
  obtain ⟨rfl, rfl⟩ := h2
  refine J_top (b := pext (S 3) (b) (t) (0)) (rfl) ?_
  refine cast hG C 10 24 (by decide) dX3_turnTo_39 (by omega) (by omega) ?_
  refine J_aload_n C 1 dX3_turnTo_40 rfl ?_
  refine g_X3_24 hG C dX3_turnTo_41 ?_
  refine J_aload_n C 1 dX3_turnTo_44 rfl ?_
  refine g_X3_105 hG C dX3_turnTo_45 ?_
  refine J_top (b := S 6 12) (rd_k (by decide) (rd_k (by decide) (rfl))) ?_
  refine J_iconst C dX3_turnTo_48 ?_
  refine J_imul C dX3_turnTo_49 ?_
  refine J_iload_n C 0 dX3_turnTo_50 rfl ?_
  refine J_iadd C dX3_turnTo_51 ?_
  refine J_aload_n C 1 dX3_turnTo_52 rfl ?_
  refine J_iload_n C 2 dX3_turnTo_53 rfl ?_
  refine J_iload_n C 3 dX3_turnTo_54 rfl ?_
  refine J_iload_n C 0 dX3_turnTo_55 rfl ?_
  refine J_callV (k := 6) (rest := [.int (iI (((S 6 12) * (3)) + (0))), .ref (jad G 11)]) C (c_wco hG (up2 (up2 S 9 (S 6 12) (t)) 10 (((S 6 12) * (3)) + (0)) (pext (S 3) (b) (t) (0))) (b) (t) (0) (cOKd (d := (S 6 12)) ((dif.rf.u1 (by decide)).u3 (by decide) (by omega)) hk) (cSd (d := (S 6 12)) ((dif.rf.u1 (by decide)).u3 (by decide) (by omega)) hs) hb (by omega) (by omega) hsh.1) kc_X3_wayCoordinates kl_X3_98 (by rw [hG.2]; decide) (by rw [hG.1]; rfl) rfl dX3_turnTo_56 rfl rfl (by decide) (Nat.le_of_ble_eq_true rfl) (J_ki (fun v3 S3 h3 => ?_))
  obtain ⟨hw0, hSe⟩ := h3
  subst hSe
  have hw0 : wcA (S 1 4) (S 2) (S 3) (S 4) b t 0 v3 := hw0
  refine cast hG C 11 24 (by decide) dX3_turnTo_59 (by omega) (by omega) ?_
  refine J_iinc (lv' := [(3, .int (iI (1))), (0, .ref (jad G 6)), (1, .int (iI (b))), (2, .int (iI (t)))]) C 0 dX3_turnTo_60 rfl (by decide) rfl ?_
  refine J_goto C 12 dX3_turnTo_63 (by decide) ?_
  refine J_iload_n C 0 dX3_turnTo_12 rfl ?_
  refine J_iconst C dX3_turnTo_13 ?_
  refine J_icmp_ge C 66 dX3_turnTo_14 (by decide) (by omega) (by omega) (fun h => absurd h (by omega)) (fun _ => ?_)
  refine J_aload_n C 1 dX3_turnTo_17 rfl ?_
  refine g_X3_21 hG C dX3_turnTo_18 ?_
  refine J_aload_n C 1 dX3_turnTo_21 rfl ?_
  refine g_X3_105 hG C dX3_turnTo_22 ?_
  refine J_top (b := S 6 12) (rd_k (by decide) (rd_k (by decide) (rd_k (by decide) (rfl)))) ?_
  refine J_iconst C dX3_turnTo_25 ?_
  refine J_imul C dX3_turnTo_26 ?_
  refine J_iload_n C 0 dX3_turnTo_27 rfl ?_
  refine J_iadd C dX3_turnTo_28 ?_
  refine J_aload_n C 1 dX3_turnTo_29 rfl ?_
  refine g_X3_45 hG C dX3_turnTo_30 ?_
  refine J_iload_n C 2 dX3_turnTo_33 rfl ?_
  refine J_iload_n C 3 dX3_turnTo_34 rfl ?_
  refine J_iload_n C 0 dX3_turnTo_35 rfl ?_
  refine J_callV (k := 1) (rest := [.int (iI (((S 6 12) * (3)) + (1))), .ref (jad G 10)]) C (c_extent hG (up2 (up2 (up2 S 9 (S 6 12) (t)) 10 (((S 6 12) * (3)) + (0)) (pext (S 3) (b) (t) (0))) 11 (((S 6 12) * (3)) + (0)) (v3)) (b) (t) (1) (by omega) (by omega) (by omega)) kc_X4_extent kl_X3_87 (by rw [hG.2]; decide) (by rw [hG.1]; rfl) rfl dX3_turnTo_36 rfl rfl (by decide) (Nat.le_of_ble_eq_true rfl) (J_ki (fun v5 S5 h5 => ?_))
  obtain ⟨rfl, rfl⟩ := h5
  refine J_top (b := pext (S 3) (b) (t) (1)) (rfl) ?_
  refine cast hG C 10 24 (by decide) dX3_turnTo_39 (by omega) (by omega) ?_
  refine J_aload_n C 1 dX3_turnTo_40 rfl ?_
  refine g_X3_24 hG C dX3_turnTo_41 ?_
  refine J_aload_n C 1 dX3_turnTo_44 rfl ?_
  refine g_X3_105 hG C dX3_turnTo_45 ?_
  refine J_top (b := S 6 12) (rd_k (by decide) (rd_k (by decide) (rd_k (by decide) (rd_k (by decide) (rfl))))) ?_
  refine J_iconst C dX3_turnTo_48 ?_
  refine J_imul C dX3_turnTo_49 ?_
  refine J_iload_n C 0 dX3_turnTo_50 rfl ?_
  refine J_iadd C dX3_turnTo_51 ?_
  refine J_aload_n C 1 dX3_turnTo_52 rfl ?_
  refine J_iload_n C 2 dX3_turnTo_53 rfl ?_
  refine J_iload_n C 3 dX3_turnTo_54 rfl ?_
  refine J_iload_n C 0 dX3_turnTo_55 rfl ?_
  refine J_callV (k := 6) (rest := [.int (iI (((S 6 12) * (3)) + (1))), .ref (jad G 11)]) C (c_wco hG (up2 (up2 (up2 (up2 S 9 (S 6 12) (t)) 10 (((S 6 12) * (3)) + (0)) (pext (S 3) (b) (t) (0))) 11 (((S 6 12) * (3)) + (0)) (v3)) 10 (((S 6 12) * (3)) + (1)) (pext (S 3) (b) (t) (1))) (b) (t) (1) (cOKd (d := (S 6 12)) ((((dif.rf.u1 (by decide)).u3 (by decide) (by omega)).u3 (by decide) (by omega)).u3 (by decide) (by omega)) hk) (cSd (d := (S 6 12)) ((((dif.rf.u1 (by decide)).u3 (by decide) (by omega)).u3 (by decide) (by omega)).u3 (by decide) (by omega)) hs) hb (by omega) (by omega) hsh.2.1) kc_X3_wayCoordinates kl_X3_98 (by rw [hG.2]; decide) (by rw [hG.1]; rfl) rfl dX3_turnTo_56 rfl rfl (by decide) (Nat.le_of_ble_eq_true rfl) (J_ki (fun v6 S6 h6 => ?_))
  obtain ⟨hw1, hSe⟩ := h6
  subst hSe
  have hw1 : wcA (S 1 4) (S 2) (S 3) (S 4) b t 1 v6 := hw1
  refine cast hG C 11 24 (by decide) dX3_turnTo_59 (by omega) (by omega) ?_
  refine J_iinc (lv' := [(3, .int (iI (2))), (0, .ref (jad G 6)), (1, .int (iI (b))), (2, .int (iI (t)))]) C 0 dX3_turnTo_60 rfl (by decide) rfl ?_
  refine J_goto C 12 dX3_turnTo_63 (by decide) ?_
  refine J_iload_n C 0 dX3_turnTo_12 rfl ?_
  refine J_iconst C dX3_turnTo_13 ?_
  refine J_icmp_ge C 66 dX3_turnTo_14 (by decide) (by omega) (by omega) (fun h => absurd h (by omega)) (fun _ => ?_)
  refine J_aload_n C 1 dX3_turnTo_17 rfl ?_
  refine g_X3_21 hG C dX3_turnTo_18 ?_
  refine J_aload_n C 1 dX3_turnTo_21 rfl ?_
  refine g_X3_105 hG C dX3_turnTo_22 ?_
  refine J_top (b := S 6 12) (rd_k (by decide) (rd_k (by decide) (rd_k (by decide) (rd_k (by decide) (rd_k (by decide) (rfl)))))) ?_
  refine J_iconst C dX3_turnTo_25 ?_
  refine J_imul C dX3_turnTo_26 ?_
  refine J_iload_n C 0 dX3_turnTo_27 rfl ?_
  refine J_iadd C dX3_turnTo_28 ?_
  refine J_aload_n C 1 dX3_turnTo_29 rfl ?_
  refine g_X3_45 hG C dX3_turnTo_30 ?_
  refine J_iload_n C 2 dX3_turnTo_33 rfl ?_
  refine J_iload_n C 3 dX3_turnTo_34 rfl ?_
  refine J_iload_n C 0 dX3_turnTo_35 rfl ?_
  refine J_callV (k := 1) (rest := [.int (iI (((S 6 12) * (3)) + (2))), .ref (jad G 10)]) C (c_extent hG (up2 (up2 (up2 (up2 (up2 S 9 (S 6 12) (t)) 10 (((S 6 12) * (3)) + (0)) (pext (S 3) (b) (t) (0))) 11 (((S 6 12) * (3)) + (0)) (v3)) 10 (((S 6 12) * (3)) + (1)) (pext (S 3) (b) (t) (1))) 11 (((S 6 12) * (3)) + (1)) (v6)) (b) (t) (2) (by omega) (by omega) (by omega)) kc_X4_extent kl_X3_87 (by rw [hG.2]; decide) (by rw [hG.1]; rfl) rfl dX3_turnTo_36 rfl rfl (by decide) (Nat.le_of_ble_eq_true rfl) (J_ki (fun v8 S8 h8 => ?_))
  obtain ⟨rfl, rfl⟩ := h8
  refine J_top (b := pext (S 3) (b) (t) (2)) (rfl) ?_
  refine cast hG C 10 24 (by decide) dX3_turnTo_39 (by omega) (by omega) ?_
  refine J_aload_n C 1 dX3_turnTo_40 rfl ?_
  refine g_X3_24 hG C dX3_turnTo_41 ?_
  refine J_aload_n C 1 dX3_turnTo_44 rfl ?_
  refine g_X3_105 hG C dX3_turnTo_45 ?_
  refine J_top (b := S 6 12) (rd_k (by decide) (rd_k (by decide) (rd_k (by decide) (rd_k (by decide) (rd_k (by decide) (rd_k (by decide) (rfl))))))) ?_
  refine J_iconst C dX3_turnTo_48 ?_
  refine J_imul C dX3_turnTo_49 ?_
  refine J_iload_n C 0 dX3_turnTo_50 rfl ?_
  refine J_iadd C dX3_turnTo_51 ?_
  refine J_aload_n C 1 dX3_turnTo_52 rfl ?_
  refine J_iload_n C 2 dX3_turnTo_53 rfl ?_
  refine J_iload_n C 3 dX3_turnTo_54 rfl ?_
  refine J_iload_n C 0 dX3_turnTo_55 rfl ?_
  refine J_callV (k := 6) (rest := [.int (iI (((S 6 12) * (3)) + (2))), .ref (jad G 11)]) C (c_wco hG (up2 (up2 (up2 (up2 (up2 (up2 S 9 (S 6 12) (t)) 10 (((S 6 12) * (3)) + (0)) (pext (S 3) (b) (t) (0))) 11 (((S 6 12) * (3)) + (0)) (v3)) 10 (((S 6 12) * (3)) + (1)) (pext (S 3) (b) (t) (1))) 11 (((S 6 12) * (3)) + (1)) (v6)) 10 (((S 6 12) * (3)) + (2)) (pext (S 3) (b) (t) (2))) (b) (t) (2) (cOKd (d := (S 6 12)) ((((((dif.rf.u1 (by decide)).u3 (by decide) (by omega)).u3 (by decide) (by omega)).u3 (by decide) (by omega)).u3 (by decide) (by omega)).u3 (by decide) (by omega)) hk) (cSd (d := (S 6 12)) ((((((dif.rf.u1 (by decide)).u3 (by decide) (by omega)).u3 (by decide) (by omega)).u3 (by decide) (by omega)).u3 (by decide) (by omega)).u3 (by decide) (by omega)) hs) hb (by omega) (by omega) hsh.2.2) kc_X3_wayCoordinates kl_X3_98 (by rw [hG.2]; decide) (by rw [hG.1]; rfl) rfl dX3_turnTo_56 rfl rfl (by decide) (Nat.le_of_ble_eq_true rfl) (J_ki (fun v9 S9 h9 => ?_))
  obtain ⟨hw2, hSe⟩ := h9
  subst hSe
  have hw2 : wcA (S 1 4) (S 2) (S 3) (S 4) b t 2 v9 := hw2
  refine cast hG C 11 24 (by decide) dX3_turnTo_59 (by omega) (by omega) ?_
  refine J_iinc (lv' := [(3, .int (iI (3))), (0, .ref (jad G 6)), (1, .int (iI (b))), (2, .int (iI (t)))]) C 0 dX3_turnTo_60 rfl (by decide) rfl ?_
  refine J_goto C 12 dX3_turnTo_63 (by decide) ?_
  refine J_iload_n C 0 dX3_turnTo_12 rfl ?_
  refine J_iconst C dX3_turnTo_13 ?_
  refine J_icmp_ge C 66 dX3_turnTo_14 (by decide) (by omega) (by omega) (fun _ => ?_) (fun h => absurd h (by omega))
  refine J_aload_n C 1 dX3_turnTo_66 rfl ?_
  refine g_X3_33 hG C dX3_turnTo_67 ?_
  refine J_aload_n C 1 dX3_turnTo_70 rfl ?_
  refine g_X3_105 hG C dX3_turnTo_71 ?_
  refine J_top (b := S 6 12) (rd_k (by decide) (rd_k (by decide) (rd_k (by decide) (rd_k (by decide) (rd_k (by decide) (rd_k (by decide) (rd_k (by decide) (rfl)))))))) ?_
  refine J_aload_n C 1 dX3_turnTo_74 rfl ?_
  refine g_X3_24 hG C dX3_turnTo_75 ?_
  refine J_aload_n C 1 dX3_turnTo_78 rfl ?_
  refine g_X3_105 hG C dX3_turnTo_79 ?_
  refine J_top (b := S 6 12) (rd_k (by decide) (rd_k (by decide) (rd_k (by decide) (rd_k (by decide) (rd_k (by decide) (rd_k (by decide) (rd_k (by decide) (rfl)))))))) ?_
  refine J_iconst C dX3_turnTo_82 ?_
  refine J_imul C dX3_turnTo_83 ?_
  refine J_iconst C dX3_turnTo_84 ?_
  refine J_iadd C dX3_turnTo_85 ?_
  refine cald hG C 11 24 (by decide) dX3_turnTo_86 (by omega) (by omega) ?_
  refine J_top (b := v9) (rd_e (by omega)) ?_
  refine cast hG C 14 8 (by decide) dX3_turnTo_87 (by omega) (by omega) ?_
  exact J_vret R C dX3_turnTo_88 (jPv.mk ⟨_, _, _, ⟨hw0, hw1, hw2⟩, rfl⟩)
theorem l_nt {E : jEnv} {G : jG} (hG : cG G) (C : jX E G cX3_nextTurn 3 RX3 3 70) (S : jMem) (nx : Int → Int) (hk : cOK S) (hs : cS S) (hd : 0 ≤ S 6 12 ∧ S 6 12 < S 1 4) (htr : trS S nx (S 6 12)) (R : jR E G none (jPv (fun S' => (lrS S' nx (S 6 12) ∧ dif (S 6 12) S S') ∨ (nx (S 6 12) = wsum (S 1 4) (S 2) (S 3) (S 4) (S 7 (S 6 12)) 6 ∧ S' = S)))) : ∀ (mm : Nat) (u : Int), mm = (6 - u).toNat → ((S 9 (S 6 12) < u ∧ u ≤ 6) ∧ ∀ v, S 9 (S 6 12) < v → v < u → ¬ pcounts (S 2) (S 3) (S 4) (S 7 (S 6 12)) v) → J E G 22 [(0, .ref (jad G 6)), (1, .int (iI (S 7 (S 6 12)))), (2, .int (iI (u)))] [] S := by
  intro mm
  induction mm using Nat.strongRecOn with | ind mm ih => ?_
  intro u hm hi
  obtain ⟨hu, hno⟩ := hi
  have hn := hk.1
  have ht9 := htr.1
  have hb := cord_in hk hs hd
  refine J_iload_n C 2 dX3_nextTurn_22 rfl ?_
  refine J_bipush C dX3_nextTurn_23 (by decide) ?_
  refine J_icmp_ge C 53 dX3_nextTurn_25 (by decide) (by omega) (by omega) (fun h1 => ?_) (fun h1 => ?_)
  · exact J_vret R C dX3_nextTurn_53 (jPv.mk (Or.inr ⟨htr.none hk hs hd (fun v a1 a2 => hno v a1 (by omega)), rfl⟩))
  · refine J_aload_n C 0 dX3_nextTurn_28 rfl ?_
    refine g_X3_45 hG C dX3_nextTurn_29 ?_
    refine J_iload_n C 1 dX3_nextTurn_32 rfl ?_
    refine J_iload_n C 2 dX3_nextTurn_33 rfl ?_
    refine J_callV (k := 1) (rest := []) C (c_counts hG S (S 7 (S 6 12)) (u) hk (by omega) (by omega)) kc_X4_counts kl_X3_95 (by rw [hG.2]; decide) (by rw [hG.1]; rfl) rfl dX3_nextTurn_34 rfl rfl (by decide) (Nat.le_of_ble_eq_true rfl) (J_ki (fun v2 S2 h2 => ?_))
    obtain ⟨rfl, rfl⟩ := h2
    refine J_if_eq_b C 47 dX3_nextTurn_37 (by decide) (fun h3 => ?_) (fun h3 => ?_)
    · refine J_iinc (lv' := [(2, .int (iI (u + 1))), (0, .ref (jad G 6)), (1, .int (iI (S 7 (S 6 12))))]) C 2 dX3_nextTurn_47 rfl (by decide) rfl ?_
      refine J_goto C 22 dX3_nextTurn_50 (by decide) ?_
      refine J_lv [1, 2, 0] rfl ?_
      refine ih _ (by omega) (u + 1) rfl ⟨by omega, fun v a1 a2 => ?_⟩
      by_cases e : v = u
      · subst e; assumption
      · exact hno v a1 (by omega)
    · have hct : pcounts (S 2) (S 3) (S 4) (S 7 (S 6 12)) u := by assumption
      have hsh := hct.2.1
      refine J_aload_n C 0 dX3_nextTurn_40 rfl ?_
      refine J_iload_n C 1 dX3_nextTurn_41 rfl ?_
      refine J_iload_n C 2 dX3_nextTurn_42 rfl ?_
      refine J_callV (k := 6) (rest := []) C (c_turnTo hG S (S 7 (S 6 12)) (u) hk hs hd hb (by omega) hsh) kc_X3_turnTo kl_X3_135 (by rw [hG.2]; decide) (by rw [hG.1]; rfl) rfl dX3_nextTurn_43 rfl rfl (by decide) (Nat.le_of_ble_eq_true rfl) (J_kv (fun S4 h4 => ?_))
      obtain ⟨v0, v1, v2, ⟨hw0, hw1, hw2⟩, hSe⟩ := h4
      have hR := htr.turn hk hs hd (by omega) hct hno hw0 hw1 hw2
      rw [← hSe] at hR
      exact J_vret R C dX3_nextTurn_46 (jPv.mk (Or.inl hR))
theorem c_nextTurn {G : jG} (hG : cG G) (S : jMem) (nx : Int → Int) (hk : cOK S) (hs : cS S) (hd : 0 ≤ S 6 12 ∧ S 6 12 < S 1 4) (htr : trS S nx (S 6 12)) : jM G yX3_nextTurn cX3_nextTurn 3 none 3 70 [.ref (jad G 6)] S (jPv (fun S' => (lrS S' nx (S 6 12) ∧ dif (S 6 12) S S') ∨ (nx (S 6 12) = wsum (S 1 4) (S 2) (S 3) (S 4) (S 7 (S 6 12)) 6 ∧ S' = S))) := by
  refine jM.of (by decide) (Nat.le_of_ble_eq_true rfl) (fun E C R => ?_)
  show J E G 0 [(0, .ref (jad G 6))] [] _
  have hn := hk.1
  have ht9 := htr.1
  refine J_aload_n C 0 dX3_nextTurn_0 rfl ?_
  refine g_X3_9 hG C dX3_nextTurn_1 ?_
  refine J_aload_n C 0 dX3_nextTurn_4 rfl ?_
  refine g_X3_105 hG C dX3_nextTurn_5 ?_
  refine cald hG C 7 8 (by decide) dX3_nextTurn_8 (by omega) (by omega) ?_
  refine J_istore_n (lv' := [(1, .int (iI (S 7 (S 6 12)))), (0, .ref (jad G 6))]) C dX3_nextTurn_9 (by decide) rfl ?_
  refine J_aload_n C 1 dX3_nextTurn_10 rfl ?_
  refine g_X3_18 hG C dX3_nextTurn_11 ?_
  refine J_aload_n C 1 dX3_nextTurn_14 rfl ?_
  refine g_X3_105 hG C dX3_nextTurn_15 ?_
  refine cald hG C 9 8 (by decide) dX3_nextTurn_18 (by omega) (by omega) ?_
  refine J_iconst C dX3_nextTurn_19 ?_
  refine J_iadd C dX3_nextTurn_20 ?_
  refine J_istore_n (lv' := [(2, .int (iI ((S 9 (S 6 12)) + (1)))), (1, .int (iI (S 7 (S 6 12)))), (0, .ref (jad G 6))]) C dX3_nextTurn_21 (by decide) rfl ?_
  refine J_lv [2, 1, 0] rfl ?_
  exact l_nt hG C S nx hk hs hd htr R _ _ rfl ⟨by omega, fun v a1 a2 => by omega⟩
theorem c_nextLayer {G : jG} (hG : cG G) (S : jMem) (nx : Int → Int) (hk : cOK S) (hs : cS S) (hd : 0 ≤ S 6 12 ∧ S 6 12 < S 1 4) (hlr : lrS S nx (S 6 12)) : jM G yX3_nextLayer cX3_nextLayer 1 none 2 40 [.ref (jad G 6)] S (jPv (fun S' => rrS S' nx (S 6 12) ∧ dif (S 6 12) S S')) := by
  refine jM.of (by decide) (Nat.le_of_ble_eq_true rfl) (fun E C R => ?_)
  show J E G 0 [(0, .ref (jad G 6))] [] _
  have hn := hk.1
  obtain ⟨⟨zt, yt, xt, hpr⟩, hx, h14, h15, h16⟩ := id hlr
  unfold cprog at hpr
  have l14 : 0 ≤ S 14 (S 6 12) := hpr.2.2.1.1.1
  have l21 := hpr.2.2.1.1.lt hpr.2.1.2.2.1
  rw [show (2 : Int) ^ 21 = 2097152 from rfl] at l21
  obtain ⟨l, hlow⟩ := isLow.ex (x := S 14 (S 6 12)) (by omega)
  refine J_aload_n C 0 dX3_nextLayer_0 rfl ?_
  refine J_iconst C dX3_nextLayer_1 ?_
  refine J_aload_n C 0 dX3_nextLayer_2 rfl ?_
  refine g_X3_33 hG C dX3_nextLayer_3 ?_
  refine J_aload_n C 0 dX3_nextLayer_6 rfl ?_
  refine g_X3_105 hG C dX3_nextLayer_7 ?_
  refine cald hG C 14 8 (by decide) dX3_nextLayer_10 (by omega) (by omega) ?_
  refine J_callN (rest := [.int (iI (2)), .ref (jad G 6)]) C (c_lowest hG S (S 14 (S 6 12)) l (by omega) hlow) kc_X5_lowest kl_X3_124 dX3_nextLayer_11 rfl rfl (by decide) (Nat.le_of_ble_eq_true rfl) (J_ki (fun v1 S1 h1 => ?_))
  obtain ⟨rfl, rfl⟩ := h1
  refine J_callV (k := 6) (rest := []) C (c_setAxis hG S (2) (l) (by omega) (by omega)) kc_X3_setAxis kl_X3_127 (by rw [hG.2]; decide) (by rw [hG.1]; rfl) rfl dX3_nextLayer_14 rfl rfl (by decide) (Nat.le_of_ble_eq_true rfl) (J_kv (fun S2 h2 => ?_))
  subst h2
  refine J_aload_n C 0 dX3_nextLayer_17 rfl ?_
  refine g_X3_33 hG C dX3_nextLayer_18 ?_
  refine J_aload_n C 0 dX3_nextLayer_21 rfl ?_
  refine g_X3_105 hG C dX3_nextLayer_22 ?_
  refine J_top (b := S 6 12) (rd_k (by decide) (rd_k (by decide) (rfl))) ?_
  refine J_dup2 C dX3_nextLayer_25 rfl rfl ?_
  refine cald hG C 14 8 (by decide) dX3_nextLayer_26 (by omega) (by omega) ?_
  refine J_top (b := S 14 (S 6 12)) (rd_k (by decide) (rd_k (by decide) (rfl))) ?_
  refine J_aload_n C 0 dX3_nextLayer_27 rfl ?_
  refine g_X3_33 hG C dX3_nextLayer_28 ?_
  refine J_aload_n C 0 dX3_nextLayer_31 rfl ?_
  refine g_X3_105 hG C dX3_nextLayer_32 ?_
  refine J_top (b := S 6 12) (rd_k (by decide) (rd_k (by decide) (rfl))) ?_
  refine cald hG C 14 8 (by decide) dX3_nextLayer_35 (by omega) (by omega) ?_
  refine J_top (b := S 14 (S 6 12)) (rd_k (by decide) (rd_k (by decide) (rfl))) ?_
  refine J_iconst C dX3_nextLayer_36 ?_
  refine J_isub C dX3_nextLayer_37 ?_
  refine J_iand C (zand (S 14 (S 6 12)) ((S 14 (S 6 12)) - (1))) dX3_nextLayer_38 (iI_zand (by omega) (by omega) (by omega) (by omega)) ?_
  refine cast hG C 14 8 (by decide) dX3_nextLayer_39 (by omega) (by omega) ?_
  refine J_aload_n C 0 dX3_nextLayer_40 rfl ?_
  refine g_X3_36 hG C dX3_nextLayer_41 ?_
  refine J_aload_n C 0 dX3_nextLayer_44 rfl ?_
  refine g_X3_105 hG C dX3_nextLayer_45 ?_
  refine J_top (b := S 6 12) (rd_k (by decide) (rd_k (by decide) (rd_k (by decide) (rfl)))) ?_
  refine J_aload_n C 0 dX3_nextLayer_48 rfl ?_
  refine g_X3_24 hG C dX3_nextLayer_49 ?_
  refine J_aload_n C 0 dX3_nextLayer_52 rfl ?_
  refine g_X3_105 hG C dX3_nextLayer_53 ?_
  refine J_top (b := S 6 12) (rd_k (by decide) (rd_k (by decide) (rd_k (by decide) (rfl)))) ?_
  refine J_iconst C dX3_nextLayer_56 ?_
  refine J_imul C dX3_nextLayer_57 ?_
  refine J_iconst C dX3_nextLayer_58 ?_
  refine J_iadd C dX3_nextLayer_59 ?_
  refine cald hG C 11 24 (by decide) dX3_nextLayer_60 (by omega) (by omega) ?_
  refine J_top (b := S 11 (((S 6 12) * (3)) + (1))) (rd_k (by decide) (rd_k (by decide) (rd_k (by decide) (rfl)))) ?_
  refine cast hG C 15 8 (by decide) dX3_nextLayer_61 (by omega) (by omega) ?_
  exact J_vret R C dX3_nextLayer_62 (jPv.mk (hlr.next hk hs hd hlow))
def bkC (S : jMem) : Prop := (∀ e, 0 ≤ e → e < S 6 12 → (0 ≤ S 12 (e * 3) ∧ S 12 (e * 3) ≤ 20 ∧ 0 ≤ S 12 (e * 3 + 1) ∧ S 12 (e * 3 + 1) ≤ 20 ∧ 0 ≤ S 12 (e * 3 + 2) ∧ S 12 (e * 3 + 2) ≤ 20) ∧ (S 13 (e * 3) = S 12 (e * 3) + pext (S 3) (S 7 e) (S 9 e) 0 ∧ S 13 (e * 3 + 1) = S 12 (e * 3 + 1) + pext (S 3) (S 7 e) (S 9 e) 1 ∧ S 13 (e * 3 + 2) = S 12 (e * 3 + 2) + pext (S 3) (S 7 e) (S 9 e) 2) ∧ (S 13 (e * 3) ≤ 20 ∧ S 13 (e * 3 + 1) ≤ 20 ∧ S 13 (e * 3 + 2) ≤ 20)) ∧ (0 ≤ S 12 (S 6 12 * 3 + 1) ∧ S 12 (S 6 12 * 3 + 1) ≤ 20 ∧ 0 ≤ S 12 (S 6 12 * 3 + 2) ∧ S 12 (S 6 12 * 3 + 2) ≤ 20) ∧ (S 13 (S 6 12 * 3 + 1) = S 12 (S 6 12 * 3 + 1) + pext (S 3) (S 7 (S 6 12)) (S 9 (S 6 12)) 1 ∧ S 13 (S 6 12 * 3 + 2) = S 12 (S 6 12 * 3 + 2) + pext (S 3) (S 7 (S 6 12)) (S 9 (S 6 12)) 2) ∧ S 10 (S 6 12 * 3) = pext (S 3) (S 7 (S 6 12)) (S 9 (S 6 12)) 0
theorem l_blk {E : jEnv} {G : jG} (hG : cG G) (C : jX E G cX3_blockedInRow 5 RX3 1 21) (S : jMem) (hk : cOK S) (hs : cS S) (hd : 0 ≤ S 6 12 ∧ S 6 12 < S 1 4) (hbc : bkC S) (R : jR E G (some .int) (jPi (fun v S' => bkI S (S 6 12) (S 6 12) v ∧ S = S'))) : ∀ (mm : Nat) (B e : Int), mm = (S 6 12 - e).toNat → ((0 ≤ e ∧ e ≤ S 6 12) ∧ bkI S (S 6 12) e B) → J E G 11 [(0, .ref (jad G 6)), (1, .int (iI (S 6 12 * 3))), (2, .int (iI (B))), (3, .int (iI (e * 3)))] [] S := by
  intro mm
  induction mm using Nat.strongRecOn with | ind mm ih => ?_
  intro B e hm hi
  obtain ⟨he, hj⟩ := hi
  have hn := hk.1
  obtain ⟨bc1, bc2, bc3, bc4⟩ := id hbc
  have hB := hj.1
  rw [show (2 : Int) ^ 21 = 2097152 from rfl] at hB
  have hbd := cord_in hk hs hd
  have xd0 := pext_pos hk (b := S 7 (S 6 12)) (t := S 9 (S 6 12)) (a := 0) hbd.1 hbd.2
  have xe0 := pext_in hk (b := S 7 (S 6 12)) (t := S 9 (S 6 12)) (a := 0) hbd.1 (by omega)
  have xe1 := pext_in hk (b := S 7 (S 6 12)) (t := S 9 (S 6 12)) (a := 1) hbd.1 (by omega)
  have xe2 := pext_in hk (b := S 7 (S 6 12)) (t := S 9 (S 6 12)) (a := 2) hbd.1 (by omega)
  refine J_iload_n C 3 dX3_blockedInRow_11 rfl ?_
  refine J_iload_n C 1 dX3_blockedInRow_12 rfl ?_
  refine J_icmp_ge C 135 dX3_blockedInRow_13 (by decide) (by omega) (by omega) (fun h1 => ?_) (fun h1 => ?_)
  · refine J_iload_n C 2 dX3_blockedInRow_135 rfl ?_
    have ee : e = S 6 12 := by omega
    rw [ee] at hj
    exact J_iret R C dX3_blockedInRow_136 (jPi.mk ⟨hj, rfl⟩)
  · obtain ⟨be1, be2, be3⟩ := bc1 e he.1 (by omega)
    have hbe := cord_in hk hs (d := e) (by omega)
    have ye0 := pext_in hk (b := S 7 e) (t := S 9 e) (a := 0) hbe.1 (by omega)
    have ye1 := pext_in hk (b := S 7 e) (t := S 9 e) (a := 1) hbe.1 (by omega)
    have ye2 := pext_in hk (b := S 7 e) (t := S 9 e) (a := 2) hbe.1 (by omega)
    refine J_aload_n C 0 dX3_blockedInRow_16 rfl ?_
    refine g_X3_27 hG C dX3_blockedInRow_17 ?_
    refine J_iload_n C 3 dX3_blockedInRow_20 rfl ?_
    refine J_iconst C dX3_blockedInRow_21 ?_
    refine J_iadd C dX3_blockedInRow_22 ?_
    refine cald hG C 12 24 (by decide) dX3_blockedInRow_23 (by omega) (by omega) ?_
    refine J_aload_n C 0 dX3_blockedInRow_24 rfl ?_
    refine g_X3_30 hG C dX3_blockedInRow_25 ?_
    refine J_iload_n C 1 dX3_blockedInRow_28 rfl ?_
    refine J_iconst C dX3_blockedInRow_29 ?_
    refine J_iadd C dX3_blockedInRow_30 ?_
    refine cald hG C 13 24 (by decide) dX3_blockedInRow_31 (by omega) (by omega) ?_
    refine J_icmp_ge C 129 dX3_blockedInRow_32 (by decide) (by omega) (by omega) (fun h2 => ?_) (fun h2 => ?_)
    · refine J_iinc (lv' := [(3, .int (iI (e * 3 + 3))), (0, .ref (jad G 6)), (1, .int (iI (S 6 12 * 3))), (2, .int (iI (B)))]) C 3 dX3_blockedInRow_129 rfl (by decide) rfl ?_
      refine J_goto C 11 dX3_blockedInRow_132 (by decide) ?_
      refine J_lv [1, 2, 3, 0] rfl ?_
      rw [show e * 3 + 3 = (e + 1) * 3 by omega]
      exact ih _ (by omega) B (e + 1) rfl ⟨by omega, hj.skip (fun p => by unfold papart; omega)⟩
    · refine J_aload_n C 0 dX3_blockedInRow_35 rfl ?_
      refine g_X3_27 hG C dX3_blockedInRow_36 ?_
      refine J_iload_n C 1 dX3_blockedInRow_39 rfl ?_
      refine J_iconst C dX3_blockedInRow_40 ?_
      refine J_iadd C dX3_blockedInRow_41 ?_
      refine cald hG C 12 24 (by decide) dX3_blockedInRow_42 (by omega) (by omega) ?_
      refine J_aload_n C 0 dX3_blockedInRow_43 rfl ?_
      refine g_X3_30 hG C dX3_blockedInRow_44 ?_
      refine J_iload_n C 3 dX3_blockedInRow_47 rfl ?_
      refine J_iconst C dX3_blockedInRow_48 ?_
      refine J_iadd C dX3_blockedInRow_49 ?_
      refine cald hG C 13 24 (by decide) dX3_blockedInRow_50 (by omega) (by omega) ?_
      refine J_icmp_ge C 129 dX3_blockedInRow_51 (by decide) (by omega) (by omega) (fun h3 => ?_) (fun h3 => ?_)
      · refine J_iinc (lv' := [(3, .int (iI (e * 3 + 3))), (0, .ref (jad G 6)), (1, .int (iI (S 6 12 * 3))), (2, .int (iI (B)))]) C 3 dX3_blockedInRow_129 rfl (by decide) rfl ?_
        refine J_goto C 11 dX3_blockedInRow_132 (by decide) ?_
        refine J_lv [1, 2, 3, 0] rfl ?_
        rw [show e * 3 + 3 = (e + 1) * 3 by omega]
        exact ih _ (by omega) B (e + 1) rfl ⟨by omega, hj.skip (fun p => by unfold papart; omega)⟩
      · refine J_aload_n C 0 dX3_blockedInRow_54 rfl ?_
        refine g_X3_27 hG C dX3_blockedInRow_55 ?_
        refine J_iload_n C 3 dX3_blockedInRow_58 rfl ?_
        refine J_iconst C dX3_blockedInRow_59 ?_
        refine J_iadd C dX3_blockedInRow_60 ?_
        refine cald hG C 12 24 (by decide) dX3_blockedInRow_61 (by omega) (by omega) ?_
        refine J_aload_n C 0 dX3_blockedInRow_62 rfl ?_
        refine g_X3_30 hG C dX3_blockedInRow_63 ?_
        refine J_iload_n C 1 dX3_blockedInRow_66 rfl ?_
        refine J_iconst C dX3_blockedInRow_67 ?_
        refine J_iadd C dX3_blockedInRow_68 ?_
        refine cald hG C 13 24 (by decide) dX3_blockedInRow_69 (by omega) (by omega) ?_
        refine J_icmp_ge C 129 dX3_blockedInRow_70 (by decide) (by omega) (by omega) (fun h4 => ?_) (fun h4 => ?_)
        · refine J_iinc (lv' := [(3, .int (iI (e * 3 + 3))), (0, .ref (jad G 6)), (1, .int (iI (S 6 12 * 3))), (2, .int (iI (B)))]) C 3 dX3_blockedInRow_129 rfl (by decide) rfl ?_
          refine J_goto C 11 dX3_blockedInRow_132 (by decide) ?_
          refine J_lv [1, 2, 3, 0] rfl ?_
          rw [show e * 3 + 3 = (e + 1) * 3 by omega]
          exact ih _ (by omega) B (e + 1) rfl ⟨by omega, hj.skip (fun p => by unfold papart; omega)⟩
        · refine J_aload_n C 0 dX3_blockedInRow_73 rfl ?_
          refine g_X3_27 hG C dX3_blockedInRow_74 ?_
          refine J_iload_n C 1 dX3_blockedInRow_77 rfl ?_
          refine J_iconst C dX3_blockedInRow_78 ?_
          refine J_iadd C dX3_blockedInRow_79 ?_
          refine cald hG C 12 24 (by decide) dX3_blockedInRow_80 (by omega) (by omega) ?_
          refine J_aload_n C 0 dX3_blockedInRow_81 rfl ?_
          refine g_X3_30 hG C dX3_blockedInRow_82 ?_
          refine J_iload_n C 3 dX3_blockedInRow_85 rfl ?_
          refine J_iconst C dX3_blockedInRow_86 ?_
          refine J_iadd C dX3_blockedInRow_87 ?_
          refine cald hG C 13 24 (by decide) dX3_blockedInRow_88 (by omega) (by omega) ?_
          refine J_icmp_ge C 129 dX3_blockedInRow_89 (by decide) (by omega) (by omega) (fun h5 => ?_) (fun h5 => ?_)
          · refine J_iinc (lv' := [(3, .int (iI (e * 3 + 3))), (0, .ref (jad G 6)), (1, .int (iI (S 6 12 * 3))), (2, .int (iI (B)))]) C 3 dX3_blockedInRow_129 rfl (by decide) rfl ?_
            refine J_goto C 11 dX3_blockedInRow_132 (by decide) ?_
            refine J_lv [1, 2, 3, 0] rfl ?_
            rw [show e * 3 + 3 = (e + 1) * 3 by omega]
            exact ih _ (by omega) B (e + 1) rfl ⟨by omega, hj.skip (fun p => by unfold papart; omega)⟩
          · refine J_iconst C dX3_blockedInRow_92 ?_
            refine J_aload_n C 0 dX3_blockedInRow_93 rfl ?_
            refine g_X3_27 hG C dX3_blockedInRow_94 ?_
            refine J_iload_n C 3 dX3_blockedInRow_97 rfl ?_
            refine cald hG C 12 24 (by decide) dX3_blockedInRow_98 (by omega) (by omega) ?_
            refine J_aload_n C 0 dX3_blockedInRow_99 rfl ?_
            refine g_X3_21 hG C dX3_blockedInRow_100 ?_
            refine J_iload_n C 1 dX3_blockedInRow_103 rfl ?_
            refine cald hG C 10 24 (by decide) dX3_blockedInRow_104 (by omega) (by omega) ?_
            refine J_isub C dX3_blockedInRow_105 ?_
            refine J_iconst C dX3_blockedInRow_106 ?_
            refine J_iadd C dX3_blockedInRow_107 ?_
            refine J_callS (rest := []) C (c_max hG S (0) (((S 12 (e * 3)) - (S 10 (S 6 12 * 3))) + (1)) (by omega) (by omega)) kc_J9_max_7cf53 kl_X3_138 dX3_blockedInRow_108 rfl rfl (by decide) (Nat.le_of_ble_eq_true rfl) (J_ki (fun v6 S6 h6 => ?_))
            obtain ⟨rfl, rfl⟩ := h6
            refine J_istore (lv' := [(4, .int (iI (max (0) (((S 12 (e * 3)) - (S 10 (S 6 12 * 3))) + (1))))), (0, .ref (jad G 6)), (1, .int (iI (S 6 12 * 3))), (2, .int (iI (B))), (3, .int (iI (e * 3)))]) C dX3_blockedInRow_111 (by decide) rfl ?_
            have hr := rng_in (e := max 0 (S 12 (e * 3) - S 10 (S 6 12 * 3) + 1)) (g := S 13 (e * 3)) (by omega) (by omega) (by omega)
            rw [show (2 : Int) ^ 21 = 2097152 from rfl] at hr
            refine J_iload_n C 3 dX3_blockedInRow_113 rfl ?_
            refine J_iconst C dX3_blockedInRow_114 ?_
            refine J_aload_n C 1 dX3_blockedInRow_115 rfl ?_
            refine g_X3_30 hG C dX3_blockedInRow_116 ?_
            refine J_iload_n C 4 dX3_blockedInRow_119 rfl ?_
            refine cald hG C 13 24 (by decide) dX3_blockedInRow_120 (by omega) (by omega) ?_
            refine J_ishl C dX3_blockedInRow_121 (by omega) (by omega) ?_
            refine J_iconst C dX3_blockedInRow_122 ?_
            refine J_iload C 0 dX3_blockedInRow_123 rfl ?_
            refine J_ishl C dX3_blockedInRow_125 (by omega) (by omega) ?_
            refine J_isub C dX3_blockedInRow_126 ?_
            refine J_ior C (zor (B) (((1) * 2 ^ (S 13 (e * 3)).toNat) - ((1) * 2 ^ (max (0) (((S 12 (e * 3)) - (S 10 (S 6 12 * 3))) + (1))).toNat))) dX3_blockedInRow_127 (iI_zor (by omega) (by omega) (by omega) (by omega)) ?_
            refine J_istore_n (lv' := [(2, .int (iI (zor (B) (((1) * 2 ^ (S 13 (e * 3)).toNat) - ((1) * 2 ^ (max (0) (((S 12 (e * 3)) - (S 10 (S 6 12 * 3))) + (1))).toNat))))), (4, .int (iI (max (0) (((S 12 (e * 3)) - (S 10 (S 6 12 * 3))) + (1))))), (0, .ref (jad G 6)), (1, .int (iI (S 6 12 * 3))), (3, .int (iI (e * 3)))]) C dX3_blockedInRow_128 (by decide) rfl ?_
            refine J_iinc (lv' := [(3, .int (iI (e * 3 + 3))), (2, .int (iI (zor (B) (((1) * 2 ^ (S 13 (e * 3)).toNat) - ((1) * 2 ^ (max (0) (((S 12 (e * 3)) - (S 10 (S 6 12 * 3))) + (1))).toNat))))), (4, .int (iI (max (0) (((S 12 (e * 3)) - (S 10 (S 6 12 * 3))) + (1))))), (0, .ref (jad G 6)), (1, .int (iI (S 6 12 * 3)))]) C 4 dX3_blockedInRow_129 rfl (by decide) rfl ?_
            refine J_goto C 11 dX3_blockedInRow_132 (by decide) ?_
            refine J_lv [3, 4, 1, 0] rfl ?_
            rw [show e * 3 + 3 = (e + 1) * 3 by omega]
            exact ih _ (by omega) _ (e + 1) rfl ⟨by omega, hj.on he.1 (by omega) (by omega) (by omega) (fun p hp0 => by unfold papart; omega)⟩
theorem c_blk {G : jG} (hG : cG G) (S : jMem) (hk : cOK S) (hs : cS S) (hd : 0 ≤ S 6 12 ∧ S 6 12 < S 1 4) (hbc : bkC S) : jM G yX3_blockedInRow cX3_blockedInRow 5 (some .int) 1 21 [.ref (jad G 6)] S (jPi (fun v S' => bkI S (S 6 12) (S 6 12) v ∧ S = S')) := by
  refine jM.of (by decide) (Nat.le_of_ble_eq_true rfl) (fun E C R => ?_)
  show J E G 0 [(0, .ref (jad G 6))] [] _
  have hn := hk.1
  refine J_aload_n C 0 dX3_blockedInRow_0 rfl ?_
  refine g_X3_105 hG C dX3_blockedInRow_1 ?_
  refine J_iconst C dX3_blockedInRow_4 ?_
  refine J_imul C dX3_blockedInRow_5 ?_
  refine J_istore_n (lv' := [(1, .int (iI ((S 6 12) * (3)))), (0, .ref (jad G 6))]) C dX3_blockedInRow_6 (by decide) rfl ?_
  refine J_iconst C dX3_blockedInRow_7 ?_
  refine J_istore_n (lv' := [(2, .int (iI (0))), (1, .int (iI ((S 6 12) * (3)))), (0, .ref (jad G 6))]) C dX3_blockedInRow_8 (by decide) rfl ?_
  refine J_iconst C dX3_blockedInRow_9 ?_
  refine J_istore_n (lv' := [(3, .int (iI (0))), (2, .int (iI (0))), (1, .int (iI ((S 6 12) * (3)))), (0, .ref (jad G 6))]) C dX3_blockedInRow_10 (by decide) rfl ?_
  refine J_lv [3, 2, 1, 0] rfl ?_
  exact l_blk hG C S hk hs hd hbc R _ 0 0 rfl ⟨by omega, ⟨by omega, by decide⟩, fun p hp => ⟨fun q => absurd q (zbit_0 p), fun ⟨e1, a1, _⟩ => by omega⟩⟩
