theorem isLeast_ex (len sid tb : Int → Int) (n0 n1 n2 b : Int) : ∃ m, isLeast len sid tb n0 n1 n2 b m := by
  have key : ∀ k : Nat, ∃ m, m ≤ phas3 len n0 n1 n2 + 1 ∧ (∀ t : Int, t < k → pturn len sid tb b t → m ≤ pprod len sid n0 n1 n2 b t) ∧ (m = phas3 len n0 n1 n2 + 1 ∨ ∃ t, pturn len sid tb b t ∧ m = pprod len sid n0 n1 n2 b t) := by
    intro k
    induction k with
    | zero => exact ⟨_, Int.le_refl _, fun t h1 h2 => by omega, Or.inl rfl⟩
    | succ k ih =>
      obtain ⟨m, h1, h2, h3⟩ := ih
      by_cases c : pturn len sid tb b k
      · refine ⟨min m (pprod len sid n0 n1 n2 b k), by omega, fun t a1 a2 => ?_, ?_⟩
        · by_cases e : t = k
          · subst e; omega
          · have := h2 t (by omega) a2; omega
        · by_cases d : m ≤ pprod len sid n0 n1 n2 b k
          · rw [show min m (pprod len sid n0 n1 n2 b k) = m by omega]; exact h3
          · exact Or.inr ⟨k, c, by omega⟩
      · refine ⟨m, h1, fun t a1 a2 => ?_, h3⟩
        by_cases e : t = k
        · subst e; exact absurd a2 c
        · exact h2 t (by omega) a2
  obtain ⟨m, h1, h2, h3⟩ := key 6
  exact ⟨m, h1, fun t ht => h2 t (by omega) ht, h3⟩
theorem l_choose {E : jEnv} {G : jG} (hG : cG G) (C : jX E G cX1_choose 7 RX1 0 0) (S0 : jMem) (n0 n1 : Int) (hk : cOK S0) (hd : dOK S0) (f0 : isFn S0 0 n0) (f1 : isFn S0 1 n1) (R : jR E G none (jPv (fun S' => keeps [25, 30] S0 S' ∧ (∀ j, S' 25 j = if j = 6 then pworth (S0 2 0) n0 (S0 2 0) * pworth (S0 2 1) n1 (S0 2 1) else S0 25 j) ∧ aOK S' n0 n1))) : ∀ (mm : Nat) (i : Int) (S : jMem), mm = (S0 29 (S0 1 4) - i).toNat → (chI S0 n0 n1 i S ∧ (0 ≤ i ∧ i ≤ S0 29 (S0 1 4))) → J E G 55 [(0, .ref (jad G 25)), (3, .int (iI (n0 * 21))), (4, .int (iI ((21 + n1) * 21))), (5, .int (iI (i)))] [] S := by
  intro mm
  induction mm using Nat.strongRecOn with | ind mm ih => ?_
  intro i S hm hj
  obtain ⟨hj, hi⟩ := hj
  have hn := hk.1
  have l0 := hk.2.1 0 (by omega) (by omega)
  have l1 := hk.2.1 1 (by omega) (by omega)
  have l2 := hk.2.1 2 (by omega) (by omega)
  have e1 : S 1 4 = S0 1 4 := by rw [hj.1 1 (by decide)]
  have e29 : S 29 (S 1 4) = S0 29 (S0 1 4) := by rw [hj.1 29 (by decide), e1]
  have q29 := first_in hk hd hn.1 (Int.le_refl _)
  refine J_iload C 3 dX1_choose_55 rfl ?_
  refine J_aload_n C 0 dX1_choose_57 rfl ?_
  refine g_X1_21 hG C dX1_choose_58 ?_
  refine J_aload_n C 0 dX1_choose_61 rfl ?_
  refine g_X1_30 hG C dX1_choose_62 ?_
  refine g_X1_54 hG C dX1_choose_65 ?_
  refine cald hG C 29 9 (by decide) dX1_choose_68 (by omega) (by omega) ?_
  refine J_icmp_ge C 123 dX1_choose_69 (by decide) (by omega) (by omega) (fun h1 => ?_) (fun h1 => ?_)
  · have e : i = S0 29 (S0 1 4) := by omega
    rw [e] at hj
    exact J_vret R C dX1_choose_123 (jPv.mk ⟨hj.1, hj.2.1, hj.done⟩)
  · have r := row_len hk hd (i := i) hi.1 (by omega)
    have e0 : S 28 (i * 3) = S0 28 (i * 3 + 0) := by rw [hj.1 28 (by decide), Int.add_zero]
    have e3 : S 28 (i * 3 + 1) = S0 28 (i * 3 + 1) := by rw [hj.1 28 (by decide)]
    refine J_iload C 3 dX1_choose_72 rfl ?_
    refine J_iconst C dX1_choose_74 ?_
    refine J_imul C dX1_choose_75 ?_
    refine J_istore (lv' := [(6, .int (iI ((i) * (3)))), (0, .ref (jad G 25)), (3, .int (iI (n0 * 21))), (4, .int (iI ((21 + n1) * 21))), (5, .int (iI (i)))]) C dX1_choose_76 (by decide) rfl ?_
    refine J_aload_n C 1 dX1_choose_78 rfl ?_
    refine g_X1_24 hG C dX1_choose_79 ?_
    refine J_iload C 4 dX1_choose_82 rfl ?_
    refine J_aload_n C 1 dX1_choose_84 rfl ?_
    refine g_X1_15 hG C dX1_choose_85 ?_
    refine J_iload_n C 2 dX1_choose_88 rfl ?_
    refine J_aload_n C 1 dX1_choose_89 rfl ?_
    refine g_X1_18 hG C dX1_choose_90 ?_
    refine J_iload C 0 dX1_choose_93 rfl ?_
    refine cald hG C 28 144 (by decide) dX1_choose_95 (by omega) (by omega) ?_
    refine J_iadd C dX1_choose_96 ?_
    refine cald hG C 27 1323 (by decide) dX1_choose_97 (by omega) (by omega) ?_
    refine J_aload_n C 1 dX1_choose_98 rfl ?_
    refine g_X1_15 hG C dX1_choose_99 ?_
    refine J_iload C 3 dX1_choose_102 rfl ?_
    refine J_aload_n C 1 dX1_choose_104 rfl ?_
    refine g_X1_18 hG C dX1_choose_105 ?_
    refine J_iload C 0 dX1_choose_108 rfl ?_
    refine J_iconst C dX1_choose_110 ?_
    refine J_iadd C dX1_choose_111 ?_
    refine cald hG C 28 144 (by decide) dX1_choose_112 (by omega) (by omega) ?_
    refine J_iadd C dX1_choose_113 ?_
    refine cald hG C 27 1323 (by decide) dX1_choose_114 (by omega) (by omega) ?_
    refine J_imul C dX1_choose_115 ?_
    refine cast hG C 30 48 (by decide) dX1_choose_116 (by omega) (by omega) ?_
    refine J_iinc (lv' := [(5, .int (iI (i + 1))), (6, .int (iI ((i) * (3)))), (0, .ref (jad G 25)), (3, .int (iI (n0 * 21))), (4, .int (iI ((21 + n1) * 21)))]) C 4 dX1_choose_117 rfl (by decide) rfl ?_
    refine J_goto C 55 dX1_choose_120 (by decide) ?_
    refine J_lv [2, 3, 4, 0] rfl ?_
    refine ih _ (by omega) (i + 1) _ rfl ⟨hj.step ?_, by omega⟩
    rw [e0, e3, hj.1 27 (by decide), v0 hd.1.1 f0 (by omega), v1 hd.1.2.1 f1 (by omega)]
theorem c_choose {G : jG} (hG : cG G) (S0 : jMem) (n0 n1 : Int) (hk : cOK S0) (hd : dOK S0) (f0 : isFn S0 0 n0) (f1 : isFn S0 1 n1) : jM G yX1_choose cX1_choose 7 none 0 0 [.ref (jad G 25), .int (iI (n0)), .int (iI (n1))] S0 (jPv (fun S' => keeps [25, 30] S0 S' ∧ (∀ j, S' 25 j = if j = 6 then pworth (S0 2 0) n0 (S0 2 0) * pworth (S0 2 1) n1 (S0 2 1) else S0 25 j) ∧ aOK S' n0 n1)) := by
  refine jM.of (by decide) (Nat.le_of_ble_eq_true rfl) (fun E C R => ?_)
  show J E G 0 [(0, .ref (jad G 25)), (1, .int (iI (n0))), (2, .int (iI (n1)))] [] _
  have hn := hk.1
  have l0 := hk.2.1 0 (by omega) (by omega)
  have l1 := hk.2.1 1 (by omega) (by omega)
  have l2 := hk.2.1 2 (by omega) (by omega)
  have q29 := first_in hk hd hn.1 (Int.le_refl _)
  refine J_iload_n C 1 dX1_choose_0 rfl ?_
  refine J_bipush C dX1_choose_1 (by decide) ?_
  refine J_imul C dX1_choose_3 ?_
  refine J_istore_n (lv' := [(3, .int (iI ((n0) * (21)))), (0, .ref (jad G 25)), (1, .int (iI (n0))), (2, .int (iI (n1)))]) C dX1_choose_4 (by decide) rfl ?_
  refine J_bipush C dX1_choose_5 (by decide) ?_
  refine J_iload_n C 3 dX1_choose_7 rfl ?_
  refine J_iadd C dX1_choose_8 ?_
  refine J_bipush C dX1_choose_9 (by decide) ?_
  refine J_imul C dX1_choose_11 ?_
  refine J_istore (lv' := [(4, .int (iI (((21) + (n1)) * (21)))), (3, .int (iI ((n0) * (21)))), (0, .ref (jad G 25)), (1, .int (iI (n0))), (2, .int (iI (n1)))]) C dX1_choose_12 (by decide) rfl ?_
  refine J_aload_n C 2 dX1_choose_14 rfl ?_
  refine J_aload_n C 2 dX1_choose_15 rfl ?_
  refine g_X1_15 hG C dX1_choose_16 ?_
  refine J_iload_n C 1 dX1_choose_19 rfl ?_
  refine J_aload_n C 2 dX1_choose_20 rfl ?_
  refine g_X1_30 hG C dX1_choose_21 ?_
  refine g_X1_41 hG C dX1_choose_24 ?_
  refine J_iconst C dX1_choose_27 ?_
  refine cald hG C 2 3 (by decide) dX1_choose_28 (by omega) (by omega) ?_
  refine J_iadd C dX1_choose_29 ?_
  refine cald hG C 27 1323 (by decide) dX1_choose_30 (by omega) (by omega) ?_
  refine J_aload_n C 2 dX1_choose_31 rfl ?_
  refine g_X1_15 hG C dX1_choose_32 ?_
  refine J_iload C 0 dX1_choose_35 rfl ?_
  refine J_aload_n C 2 dX1_choose_37 rfl ?_
  refine g_X1_30 hG C dX1_choose_38 ?_
  refine g_X1_41 hG C dX1_choose_41 ?_
  refine J_iconst C dX1_choose_44 ?_
  refine cald hG C 2 3 (by decide) dX1_choose_45 (by omega) (by omega) ?_
  refine J_iadd C dX1_choose_46 ?_
  refine cald hG C 27 1323 (by decide) dX1_choose_47 (by omega) (by omega) ?_
  refine J_imul C dX1_choose_48 ?_
  refine p_X1_73 hG C dX1_choose_49 ?_
  refine J_iconst C dX1_choose_52 ?_
  refine J_istore (lv' := [(5, .int (iI (0))), (4, .int (iI (((21) + (n1)) * (21)))), (3, .int (iI ((n0) * (21)))), (0, .ref (jad G 25)), (1, .int (iI (n0))), (2, .int (iI (n1)))]) C dX1_choose_53 (by decide) rfl ?_
  refine J_lv [3, 2, 1, 0] rfl ?_
  refine l_choose hG C S0 n0 n1 hk hd f0 f1 R _ 0 _ rfl ⟨⟨keeps.rf.up (by decide) _ _, fun j => ?_, fun j h1 h2 => by omega⟩, by omega⟩
  rw [v0 hd.1.1 f0 (by omega), v1 hd.1.2.1 f1 (by omega)]
  unfold up2; by_cases hj : j = 6 <;> simp [hj]
theorem l_need2 {E : jEnv} {G : jG} (hG : cG G) (C : jX E G cX1_needOf 9 RX1 1 21) (S : jMem) (n0 n1 n2 m b acc : Int) (hk : cOK S) (hd : dOK S) (ha : aOK S n0 n1) (f0 : isFn S 0 n0) (f1 : isFn S 1 n1) (f2 : isFn S 2 n2) (hb : 0 ≤ b ∧ b < S 1 4) : ∀ (mm : Nat) (i ls : Int), mm = (S 29 (b + 1) - i).toNat → (lsI (phas3 (S 2) n0 n1 n2) (fun i => S 30 i * S 27 ((42 + n2) * 21 + S 28 (i * 3 + 2))) (S 29 b) i ls ∧ (S 29 b ≤ i ∧ i ≤ S 29 (b + 1)) ∧ (0 ≤ ls)) → (∀ r, isLeast (S 2) (S 3) (S 4) n0 n1 n2 b r → J E G 111 [(0, .ref (jad G 25)), (1, .int (iI m)), (3, .int (iI ((42 + n2) * 21))), (4, .int (iI (phas3 (S 2) n0 n1 n2 + 1))), (5, .int (iI acc)), (6, .int (iI b)), (7, .int (iI r))] [] S) → J E G 58 [(0, .ref (jad G 25)), (1, .int (iI (m))), (3, .int (iI ((42 + n2) * 21))), (4, .int (iI (phas3 (S 2) n0 n1 n2 + 1))), (5, .int (iI (acc))), (6, .int (iI (b))), (7, .int (iI (ls))), (8, .int (iI (i)))] [] S := by
  intro mm
  induction mm using Nat.strongRecOn with | ind mm ih => ?_
  intro i ls hm hj K
  obtain ⟨hj, hi, h00⟩ := hj
  have hn := hk.1
  have l0 := hk.2.1 0 (by omega) (by omega)
  have l1 := hk.2.1 1 (by omega) (by omega)
  have l2 := hk.2.1 2 (by omega) (by omega)
  have hh := has_in hk.2.1 f0 f1 f2
  have fl := first_le hd _ (b + 1) (S 1 4) rfl (by omega) (by omega) (Int.le_refl _)
  have q0 := first_in hk hd (b := b) (by omega) (by omega)
  have q1 := first_in hk hd (b := b + 1) (by omega) (by omega)
  have q2 := first_in hk hd hn.1 (Int.le_refl _)
  have hls := hj.1
  refine J_iload C 7 dX1_needOf_58 rfl ?_
  refine J_aload_n C 0 dX1_needOf_60 rfl ?_
  refine g_X1_21 hG C dX1_needOf_61 ?_
  refine J_iload C 5 dX1_needOf_64 rfl ?_
  refine J_iconst C dX1_needOf_66 ?_
  refine J_iadd C dX1_needOf_67 ?_
  refine cald hG C 29 9 (by decide) dX1_needOf_68 (by omega) (by omega) ?_
  refine J_icmp_ge C 111 dX1_needOf_69 (by decide) (by omega) (by omega) (fun h1 => ?_) (fun h1 => ?_)
  · refine J_lv [0, 1, 2, 3, 4, 5, 6] rfl ?_
    have e : i = S 29 (b + 1) := by omega
    rw [e] at hj
    exact K ls (hj.done hk hd ha hb f2)
  · have r := row_len hk hd (i := i) (by omega) (by omega)
    have ev := v2 hd.1.2.2 f2 (x := S 28 (i * 3 + 2)) (by omega)
    have w0 := pworth_in l0 f0 (x := S 28 (i * 3 + 0)) (by omega)
    have w1 := pworth_in l1 f1 (x := S 28 (i * 3 + 1)) (by omega)
    have w2 := pworth_in l2 f2 (x := S 28 (i * 3 + 2)) (by omega)
    have hv := mul_in (mul_in (A := 40) (B := 40) ⟨w0.1, by omega⟩ ⟨w1.1, by omega⟩) (B := 40) ⟨w2.1, by omega⟩
    rw [← ev, ← ha.2 i (by omega) (by omega)] at hv
    refine J_iload C 6 dX1_needOf_72 rfl ?_
    refine J_aload_n C 0 dX1_needOf_74 rfl ?_
    refine g_X1_24 hG C dX1_needOf_75 ?_
    refine J_iload C 7 dX1_needOf_78 rfl ?_
    refine cald hG C 30 48 (by decide) dX1_needOf_80 (by omega) (by omega) ?_
    refine J_aload_n C 0 dX1_needOf_81 rfl ?_
    refine g_X1_15 hG C dX1_needOf_82 ?_
    refine J_iload_n C 2 dX1_needOf_85 rfl ?_
    refine J_aload_n C 0 dX1_needOf_86 rfl ?_
    refine g_X1_18 hG C dX1_needOf_87 ?_
    refine J_iload C 7 dX1_needOf_90 rfl ?_
    refine J_iconst C dX1_needOf_92 ?_
    refine J_imul C dX1_needOf_93 ?_
    refine J_iconst C dX1_needOf_94 ?_
    refine J_iadd C dX1_needOf_95 ?_
    refine cald hG C 28 144 (by decide) dX1_needOf_96 (by omega) (by omega) ?_
    refine J_iadd C dX1_needOf_97 ?_
    refine cald hG C 27 1323 (by decide) dX1_needOf_98 (by omega) (by omega) ?_
    refine J_imul C dX1_needOf_99 ?_
    refine J_callS (rest := []) C (c_min hG S (ls) ((S 30 (i)) * (S 27 (((42 + n2) * 21) + (S 28 (((i) * (3)) + (2)))))) (by omega) (by omega)) kc_J9_min_7cf53 kl_X1_79 dX1_needOf_100 rfl rfl (by decide) (Nat.le_of_ble_eq_true rfl) (J_ki (fun v2 S2 h2 => ?_))
    obtain ⟨rfl, rfl⟩ := h2
    refine J_istore (lv' := [(7, .int (iI (min (ls) ((S 30 (i)) * (S 27 (((42 + n2) * 21) + (S 28 (((i) * (3)) + (2))))))))), (0, .ref (jad G 25)), (1, .int (iI (m))), (3, .int (iI ((42 + n2) * 21))), (4, .int (iI (phas3 (S 2) n0 n1 n2 + 1))), (5, .int (iI (acc))), (6, .int (iI (b))), (8, .int (iI (i)))]) C dX1_needOf_103 (by decide) rfl ?_
    refine J_iinc (lv' := [(8, .int (iI (i + 1))), (7, .int (iI (min (ls) ((S 30 (i)) * (S 27 (((42 + n2) * 21) + (S 28 (((i) * (3)) + (2))))))))), (0, .ref (jad G 25)), (1, .int (iI (m))), (3, .int (iI ((42 + n2) * 21))), (4, .int (iI (phas3 (S 2) n0 n1 n2 + 1))), (5, .int (iI (acc))), (6, .int (iI (b)))]) C 7 dX1_needOf_105 rfl (by decide) rfl ?_
    refine J_goto C 58 dX1_needOf_108 (by decide) ?_
    refine J_lv [2, 3, 4, 5, 6, 7, 1, 0] rfl ?_
    exact ih _ (by omega) (i + 1) _ rfl ⟨hj.step (by omega), by omega, by omega⟩ K
theorem l_need1 {E : jEnv} {G : jG} (hG : cG G) (C : jX E G cX1_needOf 9 RX1 1 21) (S : jMem) (n0 n1 n2 m : Int) (hk : cOK S) (hd : dOK S) (ha : aOK S n0 n1) (f0 : isFn S 0 n0) (f1 : isFn S 1 n1) (f2 : isFn S 2 n2) (hm0 : 0 ≤ m ∧ m ≤ 255) (R : jR E G (some .int) (jPi (fun v S' => pneed (S 1 4) (S 2) (S 3) (S 4) n0 n1 n2 m = v ∧ S = S'))) : ∀ (mm : Nat) (b acc : Int), mm = (S 1 4 - b).toNat → ((0 ≤ b ∧ b ≤ S 1 4) ∧ acc + isum (fun b => bb (zbit m b) * pleast (S 2) (S 3) (S 4) n0 n1 n2 b) b (S 1 4 - b).toNat = pneed (S 1 4) (S 2) (S 3) (S 4) n0 n1 n2 m) → J E G 23 [(0, .ref (jad G 25)), (1, .int (iI (m))), (3, .int (iI ((42 + n2) * 21))), (4, .int (iI (phas3 (S 2) n0 n1 n2 + 1))), (5, .int (iI (acc))), (6, .int (iI (b)))] [] S := by
  intro mm
  induction mm using Nat.strongRecOn with | ind mm ih => ?_
  intro b acc hm hj
  have hn := hk.1
  have hz := zdiv_in hm0.1 b.toNat
  have hh := has_in hk.2.1 f0 f1 f2
  have hb := hj.1
  refine J_iload C 5 dX1_needOf_23 rfl ?_
  refine J_aload_n C 0 dX1_needOf_25 rfl ?_
  refine g_X1_30 hG C dX1_needOf_26 ?_
  refine g_X1_54 hG C dX1_needOf_29 ?_
  refine J_icmp_ge C 124 dX1_needOf_32 (by decide) (by omega) (by omega) (fun h1 => ?_) (fun h1 => ?_)
  · refine J_iload C 4 dX1_needOf_124 rfl ?_
    exact J_iret R C dX1_needOf_126 (jPi.mk ⟨by have e := isum_end (fun b => bb (zbit m b) * pleast (S 2) (S 3) (S 4) n0 n1 n2 b) (i := b) (hi := S 1 4) (by omega); omega, rfl⟩)
  · refine J_iload_n C 1 dX1_needOf_35 rfl ?_
    refine J_iload C 5 dX1_needOf_36 rfl ?_
    refine J_ishr C dX1_needOf_38 (by omega) (by omega) (by omega) ?_
    refine J_iconst C dX1_needOf_39 ?_
    refine J_iand C (((m) / 2 ^ (b).toNat) % 2) dX1_needOf_40 (iI_and1 _ (by omega)) ?_
    refine J_iconst C dX1_needOf_41 ?_
    refine J_icmp_ne C 118 dX1_needOf_42 (by decide) (by omega) (by omega) (fun h2 => ?_) (fun h2 => ?_)
    · refine J_iinc (lv' := [(6, .int (iI (b + 1))), (0, .ref (jad G 25)), (1, .int (iI (m))), (3, .int (iI ((42 + n2) * 21))), (4, .int (iI (phas3 (S 2) n0 n1 n2 + 1))), (5, .int (iI (acc)))]) C 5 dX1_needOf_118 rfl (by decide) rfl ?_
      refine J_goto C 23 dX1_needOf_121 (by decide) ?_
      have e := isum_step (fun b => bb (zbit m b) * pleast (S 2) (S 3) (S 4) n0 n1 n2 b) (i := b) (hi := S 1 4) (by omega)
      rw [bb_mul_f (by assumption)] at e
      refine J_lv [1, 2, 3, 4, 5, 0] rfl ?_
      exact ih _ (by omega) (b + 1) acc rfl ⟨by omega, by omega⟩
    · have q0 := first_in hk hd (b := b) (by omega) (by omega)
      refine J_iload C 3 dX1_needOf_45 rfl ?_
      refine J_istore (lv' := [(7, .int (iI (phas3 (S 2) n0 n1 n2 + 1))), (0, .ref (jad G 25)), (1, .int (iI (m))), (3, .int (iI ((42 + n2) * 21))), (4, .int (iI (phas3 (S 2) n0 n1 n2 + 1))), (5, .int (iI (acc))), (6, .int (iI (b)))]) C dX1_needOf_47 (by decide) rfl ?_
      refine J_aload_n C 1 dX1_needOf_49 rfl ?_
      refine g_X1_21 hG C dX1_needOf_50 ?_
      refine J_iload C 6 dX1_needOf_53 rfl ?_
      refine cald hG C 29 9 (by decide) dX1_needOf_55 (by omega) (by omega) ?_
      refine J_istore (lv' := [(8, .int (iI (S 29 (b)))), (7, .int (iI (phas3 (S 2) n0 n1 n2 + 1))), (0, .ref (jad G 25)), (1, .int (iI (m))), (3, .int (iI ((42 + n2) * 21))), (4, .int (iI (phas3 (S 2) n0 n1 n2 + 1))), (5, .int (iI (acc))), (6, .int (iI (b)))]) C dX1_needOf_56 (by decide) rfl ?_
      refine J_lv [2, 3, 4, 5, 6, 7, 1, 0] rfl ?_
      refine l_need2 hG C S n0 n1 n2 m b acc hk hd ha f0 f1 f2 (by omega) _ _ _ rfl ⟨⟨Int.le_refl _, fun j h1 h2 => by omega, Or.inl rfl⟩, ⟨Int.le_refl _, (hd.2.2 b (by omega) (by omega)).1⟩, by omega⟩ (fun r hr => ?_)
      have e := isum_step (fun b => bb (zbit m b) * pleast (S 2) (S 3) (S 4) n0 n1 n2 b) (i := b) (hi := S 1 4) (by omega)
      rw [bb_mul_t (by assumption), pleast_eq hr] at e
      refine J_iload C 4 dX1_needOf_111 rfl ?_
      refine J_iload C 6 dX1_needOf_113 rfl ?_
      refine J_iadd C dX1_needOf_115 ?_
      refine J_istore (lv' := [(5, .int (iI (acc + r))), (0, .ref (jad G 25)), (1, .int (iI m)), (3, .int (iI ((42 + n2) * 21))), (4, .int (iI (phas3 (S 2) n0 n1 n2 + 1))), (6, .int (iI b)), (7, .int (iI r))]) C dX1_needOf_116 (by decide) rfl ?_
      refine J_iinc (lv' := [(6, .int (iI (b + 1))), (5, .int (iI (acc + r))), (0, .ref (jad G 25)), (1, .int (iI m)), (3, .int (iI ((42 + n2) * 21))), (4, .int (iI (phas3 (S 2) n0 n1 n2 + 1))), (7, .int (iI r))]) C 5 dX1_needOf_118 rfl (by decide) rfl ?_
      refine J_goto C 23 dX1_needOf_121 (by decide) ?_
      refine J_lv [2, 3, 4, 5, 1, 0] rfl ?_
      exact ih _ (by omega) (b + 1) (acc + r) rfl ⟨by omega, by omega⟩
theorem c_needOf {G : jG} (hG : cG G) (S : jMem) (n0 n1 n2 m : Int) (hk : cOK S) (hd : dOK S) (ha : aOK S n0 n1) (f0 : isFn S 0 n0) (f1 : isFn S 1 n1) (f2 : isFn S 2 n2) (hm0 : 0 ≤ m ∧ m ≤ 255) : jM G yX1_needOf cX1_needOf 9 (some .int) 1 21 [.ref (jad G 25), .int (iI (m)), .int (iI (n2))] S (jPi (fun v S' => pneed (S 1 4) (S 2) (S 3) (S 4) n0 n1 n2 m = v ∧ S = S')) := by
  refine jM.of (by decide) (Nat.le_of_ble_eq_true rfl) (fun E C R => ?_)
  show J E G 0 [(0, .ref (jad G 25)), (1, .int (iI (m))), (2, .int (iI (n2)))] [] _
  have hn := hk.1
  have l0 := hk.2.1 0 (by omega) (by omega)
  have l1 := hk.2.1 1 (by omega) (by omega)
  have l2 := hk.2.1 2 (by omega) (by omega)
  have hh := has_in hk.2.1 f0 f1 f2
  refine J_bipush C dX1_needOf_0 (by decide) ?_
  refine J_iload_n C 2 dX1_needOf_2 rfl ?_
  refine J_iadd C dX1_needOf_3 ?_
  refine J_bipush C dX1_needOf_4 (by decide) ?_
  refine J_imul C dX1_needOf_6 ?_
  refine J_istore_n (lv' := [(3, .int (iI (((42) + (n2)) * (21)))), (0, .ref (jad G 25)), (1, .int (iI (m))), (2, .int (iI (n2)))]) C dX1_needOf_7 (by decide) rfl ?_
  refine J_aload_n C 1 dX1_needOf_8 rfl ?_
  refine J_iload_n C 3 dX1_needOf_9 rfl ?_
  refine J_callV (k := 25) (rest := []) C (c_binHas hG S (n2) hk (by omega)) kc_X1_binHas kl_X1_76 (by rw [hG.2]; decide) (by rw [hG.1]; rfl) rfl dX1_needOf_10 rfl rfl (by decide) (Nat.le_of_ble_eq_true rfl) (J_ki (fun v1 S1 h1 => ?_))
  obtain ⟨rfl, rfl⟩ := h1
  refine J_top (b := phas3 (S 2) n0 n1 n2) (by rw [show (2 : Int) * 21 + n2 = 42 + n2 by omega, ha.1, v2 hd.1.2.2 f2 (by omega)]; rfl) ?_
  refine J_iconst C dX1_needOf_13 ?_
  refine J_iadd C dX1_needOf_14 ?_
  refine J_istore (lv' := [(4, .int (iI ((phas3 (S 2) n0 n1 n2) + (1)))), (3, .int (iI (((42) + (n2)) * (21)))), (0, .ref (jad G 25)), (1, .int (iI (m))), (2, .int (iI (n2)))]) C dX1_needOf_15 (by decide) rfl ?_
  refine J_iconst C dX1_needOf_17 ?_
  refine J_istore (lv' := [(5, .int (iI (0))), (4, .int (iI ((phas3 (S 2) n0 n1 n2) + (1)))), (3, .int (iI (((42) + (n2)) * (21)))), (0, .ref (jad G 25)), (1, .int (iI (m))), (2, .int (iI (n2)))]) C dX1_needOf_18 (by decide) rfl ?_
  refine J_iconst C dX1_needOf_20 ?_
  refine J_istore (lv' := [(6, .int (iI (0))), (5, .int (iI (0))), (4, .int (iI ((phas3 (S 2) n0 n1 n2) + (1)))), (3, .int (iI (((42) + (n2)) * (21)))), (0, .ref (jad G 25)), (1, .int (iI (m))), (2, .int (iI (n2)))]) C dX1_needOf_21 (by decide) rfl ?_
  refine J_lv [4, 5, 3, 2, 1, 0] rfl ?_
  exact l_need1 hG C S n0 n1 n2 m hk hd ha f0 f1 f2 hm0 R _ 0 0 rfl ⟨by omega, by rw [Int.zero_add]; rfl⟩
theorem need_in {S : jMem} (hk : cOK S) {n0 n1 n2 m : Int} (f0 : isFn S 0 n0) (f1 : isFn S 1 n1) (f2 : isFn S 2 n2) : 0 ≤ pneed (S 1 4) (S 2) (S 3) (S 4) n0 n1 n2 m ∧ pneed (S 1 4) (S 2) (S 3) (S 4) n0 n1 n2 m ≤ 8 * 64001 := by
  have hn := hk.1
  have hh := has_in hk.2.1 f0 f1 f2
  have := isum_in (f := fun b => bb (zbit m b) * pleast (S 2) (S 3) (S 4) n0 n1 n2 b) (B := 64001) (S 1 4 - 0).toNat 0 (fun j h1 h2 => ?_)
  · unfold pneed
    have e : (((S 1 4 - 0).toNat : Nat) : Int) * 64001 ≤ 8 * 64001 := by omega
    omega
  · obtain ⟨r, hr⟩ := isLeast_ex (S 2) (S 3) (S 4) n0 n1 n2 j
    try dsimp only
    rw [pleast_eq hr]
    have h3 : 0 ≤ r ∧ r ≤ 64001 := by
      refine ⟨?_, by have := hr.1; omega⟩
      rcases hr.2.2 with e | ⟨t, ht, e⟩
      · omega
      · rw [e]; exact (prod_in hk (by omega) ht.2.2 f0 f1 f2).1
    have hb := bb_in (zbit m j)
    have := mul_in hb h3
    omega
