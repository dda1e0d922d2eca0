theorem l_tv2 {E : jEnv} {G : jG} (hG : cG G) (C : jX E G cX1_tellValues 5 RX1 1 25) (S0 : jMem) (a n : Int) (hk : cOK S0) (ha : 0 ≤ a ∧ a < 3) (hn : 0 ≤ n ∧ n ≤ S0 2 a / 2 * 2) : ∀ (mm : Nat) (x : Int) (S : jMem), mm = (S0 2 a + 1 - x).toNat → (tvI S0 a n x S ∧ (0 ≤ x ∧ x ≤ S0 2 a + 1)) → (∀ S', tvI S0 a (n + 1) 0 S' → J E G 60 [(0, .ref (jad G 25)), (1, .int (iI a)), (2, .int (iI (S0 2 a))), (3, .int (iI n))] [] S') → J E G 24 [(0, .ref (jad G 25)), (1, .int (iI (a))), (2, .int (iI (S0 2 (a)))), (3, .int (iI (n))), (4, .int (iI (x)))] [] S := by
  intro mm
  induction mm using Nat.strongRecOn with | ind mm ih => ?_
  intro x S hm hi K
  have hL := hk.2.1 a (by omega) (by omega)
  refine J_iload C 4 dX1_tellValues_24 rfl ?_
  refine J_iload_n C 2 dX1_tellValues_26 rfl ?_
  refine J_icmp_gt C 60 dX1_tellValues_27 (by decide) (by omega) (by omega) (fun h1 => ?_) (fun h1 => ?_)
  · refine J_lv [0, 1, 2, 3] rfl ?_
    exact K S (hi.1.next (by omega))
  · refine J_aload_n C 0 dX1_tellValues_30 rfl ?_
    refine g_X1_15 hG C dX1_tellValues_31 ?_
    refine J_iload_n C 1 dX1_tellValues_34 rfl ?_
    refine J_bipush C dX1_tellValues_35 (by decide) ?_
    refine J_imul C dX1_tellValues_37 ?_
    refine J_iload_n C 3 dX1_tellValues_38 rfl ?_
    refine J_iadd C dX1_tellValues_39 ?_
    refine J_bipush C dX1_tellValues_40 (by decide) ?_
    refine J_imul C dX1_tellValues_42 ?_
    refine J_iload C 4 dX1_tellValues_43 rfl ?_
    refine J_iadd C dX1_tellValues_45 ?_
    refine J_iload_n C 2 dX1_tellValues_46 rfl ?_
    refine J_iload_n C 3 dX1_tellValues_47 rfl ?_
    refine J_iload C 4 dX1_tellValues_48 rfl ?_
    refine J_callS (rest := [.int (iI (((((a) * (21)) + (n)) * (21)) + (x))), .ref (jad G 27)]) C (c_valueOf hG S (S0 2 (a)) (n) (x) (by omega) (by omega) (by omega)) kc_X1_valueOf kl_X1_62 dX1_tellValues_50 rfl rfl (by decide) (Nat.le_of_ble_eq_true rfl) (J_ki (fun v2 S2 h2 => ?_))
    obtain ⟨rfl, rfl⟩ := h2
    refine cast hG C 27 1323 (by decide) dX1_tellValues_53 (by omega) (by omega) ?_
    refine J_iinc (lv' := [(4, .int (iI (x + 1))), (0, .ref (jad G 25)), (1, .int (iI (a))), (2, .int (iI (S0 2 (a)))), (3, .int (iI (n)))]) C 4 dX1_tellValues_54 rfl (by decide) rfl ?_
    refine J_goto C 24 dX1_tellValues_57 (by decide) ?_
    refine J_lv [1, 2, 3, 4, 0] rfl ?_
    exact ih _ (by omega) (x + 1) _ rfl ⟨hi.1.put hL ha hn (by omega), by omega⟩ K
theorem l_tv1 {E : jEnv} {G : jG} (hG : cG G) (C : jX E G cX1_tellValues 5 RX1 1 25) (S0 : jMem) (a : Int) (hk : cOK S0) (ha : 0 ≤ a ∧ a < 3) (R : jR E G none (jPv (fun S' => only 27 S0 S' ∧ vOK S' a ∧ ∀ i, (i < a * 441 ∨ (a + 1) * 441 ≤ i) → S' 27 i = S0 27 i))) : ∀ (mm : Nat) (n : Int) (S : jMem), mm = (S0 2 a / 2 * 2 + 1 - n).toNat → (tvI S0 a n 0 S ∧ (0 ≤ n ∧ n ≤ S0 2 a / 2 * 2 + 1)) → J E G 12 [(0, .ref (jad G 25)), (1, .int (iI (a))), (2, .int (iI (S0 2 (a)))), (3, .int (iI (n)))] [] S := by
  intro mm
  induction mm using Nat.strongRecOn with | ind mm ih => ?_
  intro n S hm hi0
  obtain ⟨hi, hj⟩ := hi0
  have hL := hk.2.1 a (by omega) (by omega)
  refine J_iload_n C 3 dX1_tellValues_12 rfl ?_
  refine J_aload_n C 0 dX1_tellValues_13 rfl ?_
  refine J_iload_n C 1 dX1_tellValues_14 rfl ?_
  refine J_callV (k := 25) (rest := [.int (iI (n))]) C (c_lastF hG S (a) (hi.1.ok (by decide) hk) (by omega)) kc_X1_lastFunction kl_X1_46 (by rw [hG.2]; decide) (by rw [hG.1]; rfl) rfl dX1_tellValues_15 rfl rfl (by decide) (Nat.le_of_ble_eq_true rfl) (J_ki (fun v1 S1 h1 => ?_))
  obtain ⟨rfl, rfl⟩ := h1
  refine J_top (b := S0 2 (a) / 2 * 2) (by rw [hi.1 2 (by decide)]) ?_
  refine J_icmp_gt C 66 dX1_tellValues_18 (by decide) (by omega) (by omega) (fun h2 => ?_) (fun h2 => ?_)
  · exact J_vret R C dX1_tellValues_66 (jPv.mk ⟨hi.1, fun n2 x2 a1 a2 a3 a4 => by rw [hi.1 2 (by decide)] at a2 a4 ⊢; exact hi.2.2 n2 x2 a1 a2 a3 a4 (by omega), hi.2.1⟩)
  · refine J_iconst C dX1_tellValues_21 ?_
    refine J_istore (lv' := [(4, .int (iI (0))), (0, .ref (jad G 25)), (1, .int (iI (a))), (2, .int (iI (S0 2 (a)))), (3, .int (iI (n)))]) C dX1_tellValues_22 (by decide) rfl ?_
    refine J_lv [1, 2, 3, 4, 0] rfl ?_
    refine l_tv2 hG C S0 a n hk ha (by omega) _ 0 S rfl ⟨hi, by omega⟩ (fun S' hi' => ?_)
    refine J_iinc (lv' := [(3, .int (iI (n + 1))), (0, .ref (jad G 25)), (1, .int (iI a)), (2, .int (iI (S0 2 a)))]) C 3 dX1_tellValues_60 rfl (by decide) rfl ?_
    refine J_goto C 12 dX1_tellValues_63 (by decide) ?_
    refine J_lv [1, 2, 3, 0] rfl ?_
    exact ih _ (by omega) (n + 1) S' rfl ⟨hi', by omega⟩
theorem c_tellValues {G : jG} (hG : cG G) (S0 : jMem) (a : Int) (hk : cOK S0) (ha : 0 ≤ a ∧ a < 3) : jM G yX1_tellValues cX1_tellValues 5 none 1 25 [.ref (jad G 25), .int (iI (a))] S0 (jPv (fun S' => only 27 S0 S' ∧ vOK S' a ∧ ∀ i, (i < a * 441 ∨ (a + 1) * 441 ≤ i) → S' 27 i = S0 27 i)) := by
  refine jM.of (by decide) (Nat.le_of_ble_eq_true rfl) (fun E C R => ?_)
  show J E G 0 [(0, .ref (jad G 25)), (1, .int (iI (a)))] [] _
  refine J_aload_n C 0 dX1_tellValues_0 rfl ?_
  refine g_X1_30 hG C dX1_tellValues_1 ?_
  refine g_X1_41 hG C dX1_tellValues_4 ?_
  refine J_iload_n C 1 dX1_tellValues_7 rfl ?_
  refine cald hG C 2 3 (by decide) dX1_tellValues_8 (by omega) (by omega) ?_
  have m1 := hk.2.1 (a) (by omega) (by omega)
  refine J_istore_n (lv' := [(2, .int (iI (S0 2 (a)))), (0, .ref (jad G 25)), (1, .int (iI (a)))]) C dX1_tellValues_9 (by decide) rfl ?_
  refine J_iconst C dX1_tellValues_10 ?_
  refine J_istore_n (lv' := [(3, .int (iI (0))), (2, .int (iI (S0 2 (a)))), (0, .ref (jad G 25)), (1, .int (iI (a)))]) C dX1_tellValues_11 (by decide) rfl ?_
  refine J_lv [2, 3, 1, 0] rfl ?_
  exact l_tv1 hG C S0 a hk ha R _ 0 S0 rfl ⟨⟨only.rf, fun _ _ => rfl, fun n2 x2 a1 a2 a3 a4 a5 => by omega⟩, by omega⟩
