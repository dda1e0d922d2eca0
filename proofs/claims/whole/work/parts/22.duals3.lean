theorem l_tt {E : jEnv} {G : jG} (hG : cG G) (C : jX E G cX1_tellTurns 6 RX1 3 69) (S0 : jMem) (b lo : Int) (hk : cOK S0) (hb : 0 ≤ b ∧ b < 8) (hlo : 0 ≤ lo ∧ lo ≤ 42) (R : jR E G (some .int) (jPi (fun v S' => ttI S0 b lo v 6 S'))) : ∀ (mm : Nat) (u hi : Int) (S : jMem), mm = (6 - u).toNat → ttI S0 b lo hi u S → J E G 5 [(0, .ref (jad G 25)), (1, .int (iI (b))), (3, .int (iI (hi))), (4, .int (iI (u)))] [] S := by
  intro mm
  induction mm using Nat.strongRecOn with | ind mm ih => ?_
  intro u hi S hm hj
  have hq := hj.2.2.2
  refine J_iload C 3 dX1_tellTurns_5 rfl ?_
  refine J_bipush C dX1_tellTurns_7 (by decide) ?_
  refine J_icmp_ge C 72 dX1_tellTurns_9 (by decide) (by omega) (by omega) (fun h1 => ?_) (fun h1 => ?_)
  · refine J_iload_n C 2 dX1_tellTurns_72 rfl ?_
    have e : u = 6 := by omega
    rw [e] at hj
    exact J_iret R C dX1_tellTurns_73 (jPi.mk hj)
  · refine J_aload_n C 0 dX1_tellTurns_12 rfl ?_
    refine g_X1_30 hG C dX1_tellTurns_13 ?_
    refine J_iload_n C 1 dX1_tellTurns_16 rfl ?_
    refine J_iload C 3 dX1_tellTurns_17 rfl ?_
    refine J_callV (k := 1) (rest := []) C (c_counts hG S (b) (u) (hj.1.ok (by decide) hk) (by omega) (by omega)) kc_X4_counts kl_X1_66 (by rw [hG.2]; decide) (by rw [hG.1]; rfl) rfl dX1_tellTurns_19 rfl rfl (by decide) (Nat.le_of_ble_eq_true rfl) (J_ki (fun v2 S2 h2 => ?_))
    obtain ⟨rfl, rfl⟩ := h2
    refine J_top (b := bb (pcounts (S0 2) (S0 3) (S0 4) (b) (u))) (by rw [hj.1 2 (by decide), hj.1 3 (by decide), hj.1 4 (by decide)]) ?_
    refine J_if_eq_b C 66 dX1_tellTurns_22 (by decide) (fun h3 => ?_) (fun h3 => ?_)
    · refine J_iinc (lv' := [(4, .int (iI (u + 1))), (0, .ref (jad G 25)), (1, .int (iI (b))), (3, .int (iI (hi)))]) C 3 dX1_tellTurns_66 rfl (by decide) rfl ?_
      refine J_goto C 5 dX1_tellTurns_69 (by decide) ?_
      refine J_lv [1, 2, 3, 0] rfl ?_
      exact ih _ (by omega) (u + 1) hi S rfl (hj.skip (by omega) (by assumption))
    · refine J_iconst C dX1_tellTurns_25 ?_
      refine J_istore (lv' := [(5, .int (iI (0))), (0, .ref (jad G 25)), (1, .int (iI (b))), (3, .int (iI (hi))), (4, .int (iI (u)))]) C dX1_tellTurns_26 (by decide) rfl ?_
      refine J_iload C 0 dX1_tellTurns_28 rfl ?_
      refine J_iconst C dX1_tellTurns_30 ?_
      refine J_icmp_ge C 63 dX1_tellTurns_31 (by decide) (by omega) (by omega) (fun h => absurd h (by omega)) (fun _ => ?_)
      refine J_aload_n C 1 dX1_tellTurns_34 rfl ?_
      refine g_X1_18 hG C dX1_tellTurns_35 ?_
      refine J_iload_n C 3 dX1_tellTurns_38 rfl ?_
      refine J_iconst C dX1_tellTurns_39 ?_
      refine J_imul C dX1_tellTurns_40 ?_
      refine J_iload C 0 dX1_tellTurns_41 rfl ?_
      refine J_iadd C dX1_tellTurns_43 ?_
      refine J_aload_n C 1 dX1_tellTurns_44 rfl ?_
      refine g_X1_30 hG C dX1_tellTurns_45 ?_
      refine J_iload_n C 2 dX1_tellTurns_48 rfl ?_
      refine J_iload C 4 dX1_tellTurns_49 rfl ?_
      refine J_iload C 0 dX1_tellTurns_51 rfl ?_
      refine J_callV (k := 1) (rest := [.int (iI (((hi) * (3)) + (0))), .ref (jad G 28)]) C (c_extent hG S (b) (u) (0) (by omega) (by omega) (by omega)) kc_X4_extent kl_X1_70 (by rw [hG.2]; decide) (by rw [hG.1]; rfl) rfl dX1_tellTurns_53 rfl rfl (by decide) (Nat.le_of_ble_eq_true rfl) (J_ki (fun v5 S5 h5 => ?_))
      obtain ⟨rfl, rfl⟩ := h5
      refine J_top (b := pext (S0 3) (b) (u) (0)) (by rw [hj.1 3 (by decide)]) ?_
      refine cast hG C 28 144 (by decide) dX1_tellTurns_56 (by omega) (by omega) ?_
      refine J_iinc (lv' := [(5, .int (iI (1))), (0, .ref (jad G 25)), (1, .int (iI (b))), (3, .int (iI (hi))), (4, .int (iI (u)))]) C 0 dX1_tellTurns_57 rfl (by decide) rfl ?_
      refine J_goto C 28 dX1_tellTurns_60 (by decide) ?_
      refine J_iload C 0 dX1_tellTurns_28 rfl ?_
      refine J_iconst C dX1_tellTurns_30 ?_
      refine J_icmp_ge C 63 dX1_tellTurns_31 (by decide) (by omega) (by omega) (fun h => absurd h (by omega)) (fun _ => ?_)
      refine J_aload_n C 1 dX1_tellTurns_34 rfl ?_
      refine g_X1_18 hG C dX1_tellTurns_35 ?_
      refine J_iload_n C 3 dX1_tellTurns_38 rfl ?_
      refine J_iconst C dX1_tellTurns_39 ?_
      refine J_imul C dX1_tellTurns_40 ?_
      refine J_iload C 0 dX1_tellTurns_41 rfl ?_
      refine J_iadd C dX1_tellTurns_43 ?_
      refine J_aload_n C 1 dX1_tellTurns_44 rfl ?_
      refine g_X1_30 hG C dX1_tellTurns_45 ?_
      refine J_iload_n C 2 dX1_tellTurns_48 rfl ?_
      refine J_iload C 4 dX1_tellTurns_49 rfl ?_
      refine J_iload C 0 dX1_tellTurns_51 rfl ?_
      refine J_callV (k := 1) (rest := [.int (iI (((hi) * (3)) + (1))), .ref (jad G 28)]) C (c_extent hG (up2 S 28 (((hi) * (3)) + (0)) (pext (S0 3) (b) (u) (0))) (b) (u) (1) (by omega) (by omega) (by omega)) kc_X4_extent kl_X1_70 (by rw [hG.2]; decide) (by rw [hG.1]; rfl) rfl dX1_tellTurns_53 rfl rfl (by decide) (Nat.le_of_ble_eq_true rfl) (J_ki (fun v7 S7 h7 => ?_))
      obtain ⟨rfl, rfl⟩ := h7
      refine J_top (b := pext (S0 3) (b) (u) (1)) (by rw [up2_k _ _ _ (by decide), hj.1 3 (by decide)]) ?_
      refine cast hG C 28 144 (by decide) dX1_tellTurns_56 (by omega) (by omega) ?_
      refine J_iinc (lv' := [(5, .int (iI (2))), (0, .ref (jad G 25)), (1, .int (iI (b))), (3, .int (iI (hi))), (4, .int (iI (u)))]) C 0 dX1_tellTurns_57 rfl (by decide) rfl ?_
      refine J_goto C 28 dX1_tellTurns_60 (by decide) ?_
      refine J_iload C 0 dX1_tellTurns_28 rfl ?_
      refine J_iconst C dX1_tellTurns_30 ?_
      refine J_icmp_ge C 63 dX1_tellTurns_31 (by decide) (by omega) (by omega) (fun h => absurd h (by omega)) (fun _ => ?_)
      refine J_aload_n C 1 dX1_tellTurns_34 rfl ?_
      refine g_X1_18 hG C dX1_tellTurns_35 ?_
      refine J_iload_n C 3 dX1_tellTurns_38 rfl ?_
      refine J_iconst C dX1_tellTurns_39 ?_
      refine J_imul C dX1_tellTurns_40 ?_
      refine J_iload C 0 dX1_tellTurns_41 rfl ?_
      refine J_iadd C dX1_tellTurns_43 ?_
      refine J_aload_n C 1 dX1_tellTurns_44 rfl ?_
      refine g_X1_30 hG C dX1_tellTurns_45 ?_
      refine J_iload_n C 2 dX1_tellTurns_48 rfl ?_
      refine J_iload C 4 dX1_tellTurns_49 rfl ?_
      refine J_iload C 0 dX1_tellTurns_51 rfl ?_
      refine J_callV (k := 1) (rest := [.int (iI (((hi) * (3)) + (2))), .ref (jad G 28)]) C (c_extent hG (up2 (up2 S 28 (((hi) * (3)) + (0)) (pext (S0 3) (b) (u) (0))) 28 (((hi) * (3)) + (1)) (pext (S0 3) (b) (u) (1))) (b) (u) (2) (by omega) (by omega) (by omega)) kc_X4_extent kl_X1_70 (by rw [hG.2]; decide) (by rw [hG.1]; rfl) rfl dX1_tellTurns_53 rfl rfl (by decide) (Nat.le_of_ble_eq_true rfl) (J_ki (fun v9 S9 h9 => ?_))
      obtain ⟨rfl, rfl⟩ := h9
      refine J_top (b := pext (S0 3) (b) (u) (2)) (by rw [up2_k _ _ _ (by decide), up2_k _ _ _ (by decide), hj.1 3 (by decide)]) ?_
      refine cast hG C 28 144 (by decide) dX1_tellTurns_56 (by omega) (by omega) ?_
      refine J_iinc (lv' := [(5, .int (iI (3))), (0, .ref (jad G 25)), (1, .int (iI (b))), (3, .int (iI (hi))), (4, .int (iI (u)))]) C 0 dX1_tellTurns_57 rfl (by decide) rfl ?_
      refine J_goto C 28 dX1_tellTurns_60 (by decide) ?_
      refine J_iload C 0 dX1_tellTurns_28 rfl ?_
      refine J_iconst C dX1_tellTurns_30 ?_
      refine J_icmp_ge C 63 dX1_tellTurns_31 (by decide) (by omega) (by omega) (fun _ => ?_) (fun h => absurd h (by omega))
      refine J_iinc (lv' := [(3, .int (iI (hi + 1))), (5, .int (iI (3))), (0, .ref (jad G 25)), (1, .int (iI (b))), (4, .int (iI (u)))]) C 3 dX1_tellTurns_63 rfl (by decide) rfl ?_
      refine J_iinc (lv' := [(4, .int (iI (u + 1))), (3, .int (iI (hi + 1))), (5, .int (iI (3))), (0, .ref (jad G 25)), (1, .int (iI (b)))]) C 4 dX1_tellTurns_66 rfl (by decide) rfl ?_
      refine J_goto C 5 dX1_tellTurns_69 (by decide) ?_
      refine J_lv [3, 4, 1, 0] rfl ?_
      exact ih _ (by omega) (u + 1) (hi + 1) _ rfl (hj.add (by omega) (by assumption))
theorem c_tellTurns {G : jG} (hG : cG G) (S0 : jMem) (b lo : Int) (hk : cOK S0) (hb : 0 ≤ b ∧ b < 8) (hlo : 0 ≤ lo ∧ lo ≤ 42) : jM G yX1_tellTurns cX1_tellTurns 6 (some .int) 3 69 [.ref (jad G 25), .int (iI (b)), .int (iI (lo))] S0 (jPi (fun v S' => ttI S0 b lo v 6 S')) := by
  refine jM.of (by decide) (Nat.le_of_ble_eq_true rfl) (fun E C R => ?_)
  show J E G 0 [(0, .ref (jad G 25)), (1, .int (iI (b))), (2, .int (iI (lo)))] [] _
  refine J_iload_n C 2 dX1_tellTurns_0 rfl ?_
  refine J_istore_n (lv' := [(3, .int (iI (lo))), (0, .ref (jad G 25)), (1, .int (iI (b))), (2, .int (iI (lo)))]) C dX1_tellTurns_1 (by decide) rfl ?_
  refine J_iconst C dX1_tellTurns_2 ?_
  refine J_istore (lv' := [(4, .int (iI (0))), (3, .int (iI (lo))), (0, .ref (jad G 25)), (1, .int (iI (b))), (2, .int (iI (lo)))]) C dX1_tellTurns_3 (by decide) rfl ?_
  refine J_lv [2, 3, 1, 0] rfl ?_
  exact l_tt hG C S0 b lo hk hb hlo R _ 0 lo S0 rfl ⟨only.rf, fun _ _ => rfl, ⟨fun i h1 h2 => by omega, fun t h1 h2 => by omega⟩, by omega, by omega, by omega⟩
theorem l_pp {E : jEnv} {G : jG} (hG : cG G) (C : jX E G cX1_prepare 3 RX1 4 94) (S0 : jMem) (hk : cOK S0) (R : jR E G none (jPv (fun S' => dOK S' ∧ keeps [25, 27, 28, 29] S0 S' ∧ ∀ j, S' 25 j = if j = 8 then 1 else S0 25 j))) : ∀ (mm : Nat) (b tt : Int) (S : jMem), mm = (S0 1 4 - b).toNat → (ppI S0 b tt S ∧ (0 ≤ b ∧ b ≤ S0 1 4)) → J E G 35 [(0, .ref (jad G 25)), (1, .int (iI (tt))), (2, .int (iI (b)))] [] S := by
  intro mm
  induction mm using Nat.strongRecOn with | ind mm ih => ?_
  intro b tt S hm hj
  obtain ⟨hj, hb⟩ := hj
  have hn := hk.1
  have e1 : S 1 4 = S0 1 4 := by rw [hj.1 1 (by decide)]
  have hq := hj.2.2.2.1
  have hk2 : cOK (up2 S 29 b tt) := (hj.1.up (by decide) b tt).ok (by decide) hk
  refine J_iload_n C 2 dX1_prepare_35 rfl ?_
  refine J_aload_n C 0 dX1_prepare_36 rfl ?_
  refine g_X1_30 hG C dX1_prepare_37 ?_
  refine g_X1_54 hG C dX1_prepare_40 ?_
  refine J_icmp_ge C 66 dX1_prepare_43 (by decide) (by omega) (by omega) (fun h1 => ?_) (fun h1 => ?_)
  · refine J_aload_n C 0 dX1_prepare_66 rfl ?_
    refine g_X1_21 hG C dX1_prepare_67 ?_
    refine J_aload_n C 0 dX1_prepare_70 rfl ?_
    refine g_X1_30 hG C dX1_prepare_71 ?_
    refine g_X1_54 hG C dX1_prepare_74 ?_
    refine J_iload_n C 1 dX1_prepare_77 rfl ?_
    refine cast hG C 29 9 (by decide) dX1_prepare_78 (by omega) (by omega) ?_
    have e : b = S0 1 4 := by omega
    rw [e] at hj
    refine J_vret R C dX1_prepare_79 (jPv.mk ?_)
    rw [e1]
    exact ⟨hj.done hn.1, hj.1.up (by decide) _ _, fun j => by rw [up2_k _ _ _ (by decide)]; exact hj.2.1 j⟩
  · refine J_aload_n C 0 dX1_prepare_46 rfl ?_
    refine g_X1_21 hG C dX1_prepare_47 ?_
    refine J_iload_n C 2 dX1_prepare_50 rfl ?_
    refine J_iload_n C 1 dX1_prepare_51 rfl ?_
    refine cast hG C 29 9 (by decide) dX1_prepare_52 (by omega) (by omega) ?_
    refine J_aload_n C 0 dX1_prepare_53 rfl ?_
    refine J_iload_n C 2 dX1_prepare_54 rfl ?_
    refine J_iload_n C 1 dX1_prepare_55 rfl ?_
    refine J_callV (k := 25) (rest := []) C (c_tellTurns hG (up2 S 29 (b) (tt)) (b) (tt) hk2 (by omega) (by omega)) kc_X1_tellTurns kl_X1_58 (by rw [hG.2]; decide) (by rw [hG.1]; rfl) rfl dX1_prepare_56 rfl rfl (by decide) (Nat.le_of_ble_eq_true rfl) (J_ki (fun v2 S2 h2 => ?_))
    refine J_istore_n (lv' := [(1, .int (iI (v2))), (0, .ref (jad G 25)), (2, .int (iI (b)))]) C dX1_prepare_59 (by decide) rfl ?_
    refine J_iinc (lv' := [(2, .int (iI (b + 1))), (1, .int (iI (v2))), (0, .ref (jad G 25))]) C 2 dX1_prepare_60 rfl (by decide) rfl ?_
    refine J_goto C 35 dX1_prepare_63 (by decide) ?_
    refine J_lv [2, 1, 0] rfl ?_
    exact ih _ (by omega) (b + 1) _ _ rfl ⟨hj.step hb.1 (by assumption), by omega⟩
theorem vOK_far {S0 S : jMem} {a c : Int} (h : vOK S0 c) (ho : only 27 S0 S) (hL : 1 ≤ S0 2 c ∧ S0 2 c ≤ 20) (hf : ∀ i, (i < a * 441 ∨ (a + 1) * 441 ≤ i) → S 27 i = S0 27 i) (hc : c < a) : vOK S c := fun n x a1 a2 a3 a4 => by
  rw [ho 2 (by decide)] at a2 a4 ⊢
  rw [hf _ (by omega)]
  exact h n x a1 a2 a3 a4
theorem c_prepare {G : jG} (hG : cG G) (S0 : jMem) (hk : cOK S0) (hp : S0 25 8 = 0 ∨ (S0 25 8 = 1 ∧ dOK S0)) : jM G yX1_prepare cX1_prepare 3 none 4 94 [.ref (jad G 25)] S0 (jPv (fun S' => dOK S' ∧ keeps [25, 27, 28, 29] S0 S' ∧ ∀ j, S' 25 j = if j = 8 then 1 else S0 25 j)) := by
  refine jM.of (by decide) (Nat.le_of_ble_eq_true rfl) (fun E C R => ?_)
  show J E G 0 [(0, .ref (jad G 25))] [] _
  have hn := hk.1
  have hk2 : cOK (up2 S0 25 8 1) := cOK.eq (S0 := S0) (up2_k _ _ _ (by decide)) (up2_k _ _ _ (by decide)) (up2_k _ _ _ (by decide)) (up2_k _ _ _ (by decide)) (up2_k _ _ _ (by decide)) hk
  refine J_aload_n C 0 dX1_prepare_0 rfl ?_
  refine g_X1_34 hG C dX1_prepare_1 ?_
  refine J_if_eq C 8 dX1_prepare_4 (by decide) (by omega) (fun h1 => ?_) (fun h1 => ?_)
  · refine J_aload_n C 0 dX1_prepare_8 rfl ?_
    refine J_iconst C dX1_prepare_9 ?_
    refine p_X1_34 hG C (by first | exact Or.inl rfl | exact Or.inr rfl | omega) dX1_prepare_10 ?_
    refine J_iconst C dX1_prepare_13 ?_
    refine J_istore_n (lv' := [(1, .int (iI (0))), (0, .ref (jad G 25))]) C dX1_prepare_14 (by decide) rfl ?_
    refine J_iload_n C 0 dX1_prepare_15 rfl ?_
    refine J_iconst C dX1_prepare_16 ?_
    refine J_icmp_ge C 31 dX1_prepare_17 (by decide) (by omega) (by omega) (fun h => absurd h (by omega)) (fun _ => ?_)
    refine J_aload_n C 1 dX1_prepare_20 rfl ?_
    refine J_iload_n C 0 dX1_prepare_21 rfl ?_
    refine J_callV (k := 25) (rest := []) C (c_tellValues hG (up2 S0 25 (8) (1)) (0) hk2 (by omega)) kc_X1_tellValues kl_X1_50 (by rw [hG.2]; decide) (by rw [hG.1]; rfl) rfl dX1_prepare_22 rfl rfl (by decide) (Nat.le_of_ble_eq_true rfl) (J_kv (fun S3 h3 => ?_))
    obtain ⟨o0, v0, f0⟩ := h3
    have hk2 := o0.ok (by decide) hk2
    refine J_iinc (lv' := [(1, .int (iI (1))), (0, .ref (jad G 25))]) C 0 dX1_prepare_25 rfl (by decide) rfl ?_
    refine J_goto C 15 dX1_prepare_28 (by decide) ?_
    refine J_iload_n C 0 dX1_prepare_15 rfl ?_
    refine J_iconst C dX1_prepare_16 ?_
    refine J_icmp_ge C 31 dX1_prepare_17 (by decide) (by omega) (by omega) (fun h => absurd h (by omega)) (fun _ => ?_)
    refine J_aload_n C 1 dX1_prepare_20 rfl ?_
    refine J_iload_n C 0 dX1_prepare_21 rfl ?_
    refine J_callV (k := 25) (rest := []) C (c_tellValues hG S3 (1) hk2 (by omega)) kc_X1_tellValues kl_X1_50 (by rw [hG.2]; decide) (by rw [hG.1]; rfl) rfl dX1_prepare_22 rfl rfl (by decide) (Nat.le_of_ble_eq_true rfl) (J_kv (fun S5 h5 => ?_))
    obtain ⟨o1, v1, f1⟩ := h5
    have hk2 := o1.ok (by decide) hk2
    refine J_iinc (lv' := [(1, .int (iI (2))), (0, .ref (jad G 25))]) C 0 dX1_prepare_25 rfl (by decide) rfl ?_
    refine J_goto C 15 dX1_prepare_28 (by decide) ?_
    refine J_iload_n C 0 dX1_prepare_15 rfl ?_
    refine J_iconst C dX1_prepare_16 ?_
    refine J_icmp_ge C 31 dX1_prepare_17 (by decide) (by omega) (by omega) (fun h => absurd h (by omega)) (fun _ => ?_)
    refine J_aload_n C 1 dX1_prepare_20 rfl ?_
    refine J_iload_n C 0 dX1_prepare_21 rfl ?_
    refine J_callV (k := 25) (rest := []) C (c_tellValues hG S5 (2) hk2 (by omega)) kc_X1_tellValues kl_X1_50 (by rw [hG.2]; decide) (by rw [hG.1]; rfl) rfl dX1_prepare_22 rfl rfl (by decide) (Nat.le_of_ble_eq_true rfl) (J_kv (fun S7 h7 => ?_))
    obtain ⟨o2, v2, f2⟩ := h7
    have hk2 := o2.ok (by decide) hk2
    refine J_iinc (lv' := [(1, .int (iI (3))), (0, .ref (jad G 25))]) C 0 dX1_prepare_25 rfl (by decide) rfl ?_
    refine J_goto C 15 dX1_prepare_28 (by decide) ?_
    refine J_iload_n C 0 dX1_prepare_15 rfl ?_
    refine J_iconst C dX1_prepare_16 ?_
    refine J_icmp_ge C 31 dX1_prepare_17 (by decide) (by omega) (by omega) (fun _ => ?_) (fun h => absurd h (by omega))
    refine J_iconst C dX1_prepare_31 ?_
    refine J_istore_n (lv' := [(1, .int (iI (0))), (0, .ref (jad G 25))]) C dX1_prepare_32 (by decide) rfl ?_
    refine J_iconst C dX1_prepare_33 ?_
    refine J_istore_n (lv' := [(2, .int (iI (0))), (1, .int (iI (0))), (0, .ref (jad G 25))]) C dX1_prepare_34 (by decide) rfl ?_
    refine J_lv [2, 1, 0] rfl ?_
    have L0 := hk.2.1 0 (by omega) (by omega)
    have L1 := hk.2.1 1 (by omega) (by omega)
    have kp : keeps [25, 27, 28, 29] S0 S7 := (((keeps.rf.up (by decide) 8 1).on (by decide) o0).on (by decide) o1).on (by decide) o2
    refine l_pp hG C S0 hk R _ 0 0 _ rfl ⟨⟨kp, fun j => ?_, ⟨?_, ?_, v2⟩, by omega, fun c h1 h2 => by omega⟩, by omega⟩
    · rw [o2 25 (by decide), o1 25 (by decide), o0 25 (by decide)]; unfold up2; by_cases hj : j = 8 <;> simp [hj]
    · refine vOK_far (vOK_far v0 o1 ?_ f1 (by omega)) o2 ?_ f2 (by omega)
      · rw [o0 2 (by decide), up2_k _ _ _ (by decide)]; exact L0
      · rw [o1 2 (by decide), o0 2 (by decide), up2_k _ _ _ (by decide)]; exact L0
    · refine vOK_far v1 o2 ?_ f2 (by omega)
      rw [o1 2 (by decide), o0 2 (by decide), up2_k _ _ _ (by decide)]; exact L1
  · rcases hp with hp | hp
    · omega
    refine J_vret R C dX1_prepare_7 (jPv.mk ⟨hp.2, keeps.rf, fun j => ?_⟩)
    by_cases hj : j = 8
    · subst hj; rw [if_pos rfl]; omega
    · rw [if_neg hj]
