theorem pdom_eq {q : Nat} {S0 S : jMem} (h : only q S0 S) (hq : q ≠ 1 ∧ q ≠ 2 ∧ q ≠ 28 ∧ q ≠ 29) (a p n : Int) : pdom S a p n = pdom S0 a p n := by
  unfold pdom
  rw [h 1 (Ne.symm hq.1), h 2 (Ne.symm hq.2.1), h 28 (Ne.symm hq.2.2.1), h 29 (Ne.symm hq.2.2.2)]
theorem only.keeps {q : Nat} {S0 S : jMem} (h : only q S0 S) : keeps [q] S0 S := fun k hk => h k (fun e => hk (by rw [e]; exact List.mem_singleton_self q))
theorem only.dok {S0 S : jMem} (h : only 31 S0 S) (hd : dOK S0) : dOK S := hd.keeps h.keeps (by decide)
theorem l_idle2 {E : jEnv} {G : jG} (hG : cG G) (C : jX E G cX1_leaveOutIdle 5 RX1 1 28) (S0 S : jMem) (a n : Int) (hk : cOK S0) (hd : dOK S0) (ha : 0 ≤ a ∧ a < 3) (hj : idI S0 a n S) (hn : 0 ≤ n ∧ n ≤ S0 2 a / 2 * 2) : ∀ (mm : Nat) (d p : Int), mm = (n - p).toNat → ((0 ≤ p ∧ p ≤ n) ∧ (d = 0 ∨ d = 1) ∧ (d = 1 ↔ ∃ q, (0 ≤ q ∧ q < p) ∧ zbit (S 31 a) q ∧ pdom S0 a q n)) → (∀ d, (d = 0 ∨ d = 1) → (d = 1 ↔ ∃ q, (0 ≤ q ∧ q < n) ∧ zbit (S 31 a) q ∧ pdom S0 a q n) → J E G 66 [(0, .ref (jad G 25)), (1, .int (iI a)), (2, .int (iI n)), (3, .int (iI d))] [] S) → J E G 23 [(0, .ref (jad G 25)), (1, .int (iI (a))), (2, .int (iI (n))), (3, .int (iI (d))), (4, .int (iI (p)))] [] S := by
  intro mm
  induction mm using Nat.strongRecOn with | ind mm ih => ?_
  intro d p hm hi K
  obtain ⟨hp, hA, hB⟩ := hi
  have hk2 := hj.1.ok (by decide) hk
  have hd2 := hj.1.dok hd
  have e2 : S 2 a = S0 2 a := by rw [hj.1 2 (by decide)]
  have hL := hk.2.1 a (by omega) (by omega)
  have hz := hj.2.2.1
  refine J_iload C 4 dX1_leaveOutIdle_23 rfl ?_
  refine J_iload_n C 2 dX1_leaveOutIdle_25 rfl ?_
  refine J_icmp_ge C 66 dX1_leaveOutIdle_26 (by decide) (by omega) (by omega) (fun h1 => ?_) (fun h1 => ?_)
  · refine J_lv [0, 1, 2, 3] rfl ?_
    refine K d hA ⟨fun h => ?_, fun ⟨q, q1, q2, q3⟩ => ?_⟩
    · obtain ⟨q, q1, q2⟩ := hB.mp h; exact ⟨q, by omega, q2⟩
    · by_cases e : d = 1
      · exact e
      · exact hB.mpr ⟨q, by omega, q2, q3⟩
  · refine J_iload_n C 3 dX1_leaveOutIdle_29 rfl ?_
    refine J_if_ne C 66 dX1_leaveOutIdle_30 (by decide) (by omega) (fun h2 => ?_) (fun h2 => ?_)
    · refine J_lv [0, 1, 2, 3] rfl ?_
      refine K d hA ⟨fun h => ?_, fun ⟨q, q1, q2, q3⟩ => ?_⟩
      · obtain ⟨q, q1, q2⟩ := hB.mp h; exact ⟨q, by omega, q2⟩
      · by_cases e : d = 1
        · exact e
        · exact hB.mpr ⟨q, by omega, q2, q3⟩
    · refine J_aload_n C 0 dX1_leaveOutIdle_33 rfl ?_
      refine J_iload_n C 1 dX1_leaveOutIdle_34 rfl ?_
      refine J_iload C 4 dX1_leaveOutIdle_35 rfl ?_
      refine J_callV (k := 25) (rest := []) C (c_isTried hG S (a) (p) (by omega) (by omega) (by omega)) kc_X1_isTried kl_X1_93 (by rw [hG.2]; decide) (by rw [hG.1]; rfl) rfl dX1_leaveOutIdle_37 rfl rfl (by decide) (Nat.le_of_ble_eq_true rfl) (J_ki (fun v3 S3 h3 => ?_))
      obtain ⟨rfl, rfl⟩ := h3
      refine J_if_eq_b C 58 dX1_leaveOutIdle_40 (by decide) (fun h4 => ?_) (fun h4 => ?_)
      · refine J_iconst C dX1_leaveOutIdle_58 ?_
        refine J_istore_n (lv' := [(3, .int (iI (0))), (0, .ref (jad G 25)), (1, .int (iI (a))), (2, .int (iI (n))), (4, .int (iI (p)))]) C dX1_leaveOutIdle_59 (by decide) rfl ?_
        refine J_iinc (lv' := [(4, .int (iI (p + 1))), (3, .int (iI (0))), (0, .ref (jad G 25)), (1, .int (iI (a))), (2, .int (iI (n)))]) C 4 dX1_leaveOutIdle_60 rfl (by decide) rfl ?_
        refine J_goto C 23 dX1_leaveOutIdle_63 (by decide) ?_
        refine J_lv [2, 3, 4, 1, 0] rfl ?_
        refine ih _ (by omega) 0 (p + 1) rfl ⟨by omega, Or.inl rfl, ⟨fun h => by omega, fun ⟨q, q1, q2, q3⟩ => ?_⟩⟩ K
        exfalso
        by_cases e : q = p
        · subst e; first | exact absurd q2 (by assumption) | exact absurd q3 (by assumption)
        · have := hB.mpr ⟨q, by omega, q2, q3⟩; omega
      · refine J_aload_n C 0 dX1_leaveOutIdle_43 rfl ?_
        refine J_iload_n C 1 dX1_leaveOutIdle_44 rfl ?_
        refine J_iload C 4 dX1_leaveOutIdle_45 rfl ?_
        refine J_iload_n C 2 dX1_leaveOutIdle_47 rfl ?_
        refine J_callV (k := 25) (rest := []) C (c_gives hG S (a) (p) (n) hk2 hd2 (by omega) (by omega) (by omega)) kc_X1_givesNoLess kl_X1_117 (by rw [hG.2]; decide) (by rw [hG.1]; rfl) rfl dX1_leaveOutIdle_48 rfl rfl (by decide) (Nat.le_of_ble_eq_true rfl) (J_ki (fun v5 S5 h5 => ?_))
        obtain ⟨rfl, rfl⟩ := h5
        refine J_top (b := bb (pdom S0 (a) (p) (n))) (by rw [pdom_eq hj.1 (by decide)]) ?_
        refine J_if_eq_b C 58 dX1_leaveOutIdle_51 (by decide) (fun h6 => ?_) (fun h6 => ?_)
        · refine J_iconst C dX1_leaveOutIdle_58 ?_
          refine J_istore_n (lv' := [(3, .int (iI (0))), (0, .ref (jad G 25)), (1, .int (iI (a))), (2, .int (iI (n))), (4, .int (iI (p)))]) C dX1_leaveOutIdle_59 (by decide) rfl ?_
          refine J_iinc (lv' := [(4, .int (iI (p + 1))), (3, .int (iI (0))), (0, .ref (jad G 25)), (1, .int (iI (a))), (2, .int (iI (n)))]) C 4 dX1_leaveOutIdle_60 rfl (by decide) rfl ?_
          refine J_goto C 23 dX1_leaveOutIdle_63 (by decide) ?_
          refine J_lv [2, 3, 4, 1, 0] rfl ?_
          refine ih _ (by omega) 0 (p + 1) rfl ⟨by omega, Or.inl rfl, ⟨fun h => by omega, fun ⟨q, q1, q2, q3⟩ => ?_⟩⟩ K
          exfalso
          by_cases e : q = p
          · subst e; first | exact absurd q2 (by assumption) | exact absurd q3 (by assumption)
          · have := hB.mpr ⟨q, by omega, q2, q3⟩; omega
        · refine J_iconst C dX1_leaveOutIdle_54 ?_
          refine J_goto C 59 dX1_leaveOutIdle_55 (by decide) ?_
          refine J_istore_n (lv' := [(3, .int (iI (1))), (0, .ref (jad G 25)), (1, .int (iI (a))), (2, .int (iI (n))), (4, .int (iI (p)))]) C dX1_leaveOutIdle_59 (by decide) rfl ?_
          refine J_iinc (lv' := [(4, .int (iI (p + 1))), (3, .int (iI (1))), (0, .ref (jad G 25)), (1, .int (iI (a))), (2, .int (iI (n)))]) C 4 dX1_leaveOutIdle_60 rfl (by decide) rfl ?_
          refine J_goto C 23 dX1_leaveOutIdle_63 (by decide) ?_
          refine J_lv [2, 3, 4, 1, 0] rfl ?_
          exact ih _ (by omega) 1 (p + 1) rfl ⟨by omega, Or.inr rfl, ⟨fun _ => ⟨p, by omega, by assumption, by assumption⟩, fun _ => rfl⟩⟩ K
theorem l_idle1 {E : jEnv} {G : jG} (hG : cG G) (C : jX E G cX1_leaveOutIdle 5 RX1 1 28) (S0 : jMem) (a : Int) (hk : cOK S0) (hd : dOK S0) (ha : 0 ≤ a ∧ a < 3) (R : jR E G none (jPv (fun S' => only 31 S0 S' ∧ (∀ j, j ≠ a → S' 31 j = S0 31 j) ∧ trOK S' a))) : ∀ (mm : Nat) (n : Int) (S : jMem), mm = (S0 2 a / 2 * 2 + 1 - n).toNat → (idI S0 a n S ∧ (0 ≤ n ∧ n ≤ S0 2 a / 2 * 2 + 1)) → J E G 9 [(0, .ref (jad G 25)), (1, .int (iI (a))), (2, .int (iI (n)))] [] S := by
  intro mm
  induction mm using Nat.strongRecOn with | ind mm ih => ?_
  intro n S hm hj
  obtain ⟨hj, hn⟩ := hj
  have hk2 := hj.1.ok (by decide) hk
  have hd2 := hj.1.dok hd
  have e2 : S 2 a = S0 2 a := by rw [hj.1 2 (by decide)]
  have hL := hk.2.1 a (by omega) (by omega)
  have hz := hj.2.2.1
  refine J_iload_n C 2 dX1_leaveOutIdle_9 rfl ?_
  refine J_aload_n C 0 dX1_leaveOutIdle_10 rfl ?_
  refine J_iload_n C 1 dX1_leaveOutIdle_11 rfl ?_
  refine J_callV (k := 25) (rest := [.int (iI (n))]) C (c_lastF hG S (a) hk2 (by omega)) kc_X1_lastFunction kl_X1_46 (by rw [hG.2]; decide) (by rw [hG.1]; rfl) rfl dX1_leaveOutIdle_12 rfl rfl (by decide) (Nat.le_of_ble_eq_true rfl) (J_ki (fun v1 S1 h1 => ?_))
  obtain ⟨rfl, rfl⟩ := h1
  refine J_top (b := S0 2 (a) / 2 * 2) (by rw [hj.1 2 (by decide)]) ?_
  refine J_icmp_gt C 88 dX1_leaveOutIdle_15 (by decide) (by omega) (by omega) (fun h2 => ?_) (fun h2 => ?_)
  · refine J_vret R C dX1_leaveOutIdle_88 (jPv.mk ⟨hj.1, hj.2.1, hz, fun k fk => ?_⟩)
    have fk : 0 ≤ k ∧ k ≤ S0 2 a / 2 * 2 := by omega
    by_cases hb : zbit (S 31 a) k
    · exact Or.inl hb
    · refine Or.inr ?_
      have h1 := hj.2.2.2.2 k fk.1 (by omega)
      obtain ⟨q, q1, q2, q3⟩ := Classical.not_not.mp (fun hc => hb (h1.mpr hc))
      exact ⟨q, q1, q2, by rw [pdom_eq hj.1 (by decide)]; exact q3⟩
  · refine J_iconst C dX1_leaveOutIdle_18 ?_
    refine J_istore_n (lv' := [(3, .int (iI (0))), (0, .ref (jad G 25)), (1, .int (iI (a))), (2, .int (iI (n)))]) C dX1_leaveOutIdle_19 (by decide) rfl ?_
    refine J_iconst C dX1_leaveOutIdle_20 ?_
    refine J_istore (lv' := [(4, .int (iI (0))), (3, .int (iI (0))), (0, .ref (jad G 25)), (1, .int (iI (a))), (2, .int (iI (n)))]) C dX1_leaveOutIdle_21 (by decide) rfl ?_
    have hlt : (S0 2 a / 2 * 2 + 1 - (n + 1)).toNat < mm := by omega
    have hnn : 0 ≤ n + 1 ∧ n + 1 ≤ S0 2 a / 2 * 2 + 1 := by omega
    have hw := zpow_lt (n := n) (k := 21) hn.1 (by omega)
    refine J_lv [2, 3, 4, 1, 0] rfl ?_
    refine l_idle2 hG C S0 S a n hk hd ha hj (by omega) _ 0 0 rfl ⟨by omega, Or.inl rfl, ⟨fun h => by omega, fun ⟨q, q1, q2⟩ => by omega⟩⟩ (fun d hd1 hx => ?_)
    refine J_iload_n C 3 dX1_leaveOutIdle_66 rfl ?_
    refine J_if_ne C 82 dX1_leaveOutIdle_67 (by decide) (by omega) (fun h51 => ?_) (fun h51 => ?_)
    · refine J_iinc (lv' := [(2, .int (iI (n + 1))), (0, .ref (jad G 25)), (1, .int (iI (a))), (3, .int (iI (d)))]) C 2 dX1_leaveOutIdle_82 rfl (by decide) rfl ?_
      refine J_goto C 9 dX1_leaveOutIdle_85 (by decide) ?_
      refine J_lv [1, 2, 0] rfl ?_
      exact ih _ hlt (n + 1) S rfl ⟨hj.skip hn.1 (hx.mp (hd1.resolve_left (by assumption))), hnn⟩
    · refine J_aload_n C 0 dX1_leaveOutIdle_70 rfl ?_
      refine g_X1_27 hG C dX1_leaveOutIdle_71 ?_
      refine J_iload_n C 1 dX1_leaveOutIdle_74 rfl ?_
      refine J_dup2 C dX1_leaveOutIdle_75 rfl rfl ?_
      refine cald hG C 31 3 (by decide) dX1_leaveOutIdle_76 (by omega) (by omega) ?_
      refine J_iconst C dX1_leaveOutIdle_77 ?_
      refine J_iload_n C 2 dX1_leaveOutIdle_78 rfl ?_
      refine J_ishl C dX1_leaveOutIdle_79 (by omega) (by omega) ?_
      refine J_ior C (zor (S 31 (a)) ((1) * 2 ^ (n).toNat)) dX1_leaveOutIdle_80 (iI_zor (by omega) (by omega) (by omega) (by omega)) ?_
      refine cast hG C 31 3 (by decide) dX1_leaveOutIdle_81 (by omega) (by omega) ?_
      refine J_iinc (lv' := [(2, .int (iI (n + 1))), (0, .ref (jad G 25)), (1, .int (iI (a))), (3, .int (iI (d)))]) C 2 dX1_leaveOutIdle_82 rfl (by decide) rfl ?_
      refine J_goto C 9 dX1_leaveOutIdle_85 (by decide) ?_
      refine J_lv [1, 2, 0] rfl ?_
      exact ih _ hlt (n + 1) _ rfl ⟨hj.set (by omega) (fun hc => by have := hx.mpr hc; omega), hnn⟩
theorem c_idle {G : jG} (hG : cG G) (S0 : jMem) (a : Int) (hk : cOK S0) (hd : dOK S0) (ha : 0 ≤ a ∧ a < 3) : jM G yX1_leaveOutIdle cX1_leaveOutIdle 5 none 1 28 [.ref (jad G 25), .int (iI (a))] S0 (jPv (fun S' => only 31 S0 S' ∧ (∀ j, j ≠ a → S' 31 j = S0 31 j) ∧ trOK S' a)) := by
  refine jM.of (by decide) (Nat.le_of_ble_eq_true rfl) (fun E C R => ?_)
  show J E G 0 [(0, .ref (jad G 25)), (1, .int (iI (a)))] [] _
  refine J_aload_n C 0 dX1_leaveOutIdle_0 rfl ?_
  refine g_X1_27 hG C dX1_leaveOutIdle_1 ?_
  refine J_iload_n C 1 dX1_leaveOutIdle_4 rfl ?_
  refine J_iconst C dX1_leaveOutIdle_5 ?_
  refine cast hG C 31 3 (by decide) dX1_leaveOutIdle_6 (by omega) (by omega) ?_
  refine J_iconst C dX1_leaveOutIdle_7 ?_
  refine J_istore_n (lv' := [(2, .int (iI (0))), (0, .ref (jad G 25)), (1, .int (iI (a)))]) C dX1_leaveOutIdle_8 (by decide) rfl ?_
  refine J_lv [1, 2, 0] rfl ?_
  have hL := hk.2.1 a (by omega) (by omega)
  refine l_idle1 hG C S0 a hk hd ha R _ 0 _ rfl ⟨⟨only.rf.up _ _, fun j hj => up2_a _ _ _ hj, by rw [up2_eq]; omega, fun j h1 h2 => by rw [up2_eq]; exact zbit_0 j, fun j h1 h2 => by omega⟩, by omega⟩
