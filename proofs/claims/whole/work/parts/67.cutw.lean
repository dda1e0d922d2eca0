theorem c_write {G : jG} (hG : cG G) (S : jMem) (n a p o t : Int) (hn : 0 ≤ n ∧ n < 15) : jM G yX0_write cX0_write 7 none 0 0 [.ref (jad G 22), .int (iI (n)), .int (iI (a)), .int (iI (p)), .int (iI (o)), .int (iI (t))] S (jPv (fun S' => S' = wrM S n a p o t)) := by
  refine jM.of (by decide) (Nat.le_of_ble_eq_true rfl) (fun E C R => ?_)
  show J E G 0 [(0, .ref (jad G 22)), (1, .int (iI (n))), (2, .int (iI (a))), (3, .int (iI (p))), (4, .int (iI (o))), (5, .int (iI (t)))] [] _
  refine J_iload_n C 1 dX0_write_0 rfl ?_
  refine J_iconst C dX0_write_1 ?_
  refine J_imul C dX0_write_2 ?_
  refine J_istore (lv' := [(6, .int (iI ((n) * (4)))), (0, .ref (jad G 22)), (1, .int (iI (n))), (2, .int (iI (a))), (3, .int (iI (p))), (4, .int (iI (o))), (5, .int (iI (t)))]) C dX0_write_3 (by decide) rfl ?_
  refine J_aload_n C 1 dX0_write_5 rfl ?_
  refine g_X0_9 hG C dX0_write_6 ?_
  refine J_iload C 0 dX0_write_9 rfl ?_
  refine J_iload_n C 3 dX0_write_11 rfl ?_
  refine cast hG C 23 60 (by decide) dX0_write_12 (by omega) (by omega) ?_
  refine J_aload_n C 1 dX0_write_13 rfl ?_
  refine g_X0_9 hG C dX0_write_14 ?_
  refine J_iload C 0 dX0_write_17 rfl ?_
  refine J_iconst C dX0_write_19 ?_
  refine J_iadd C dX0_write_20 ?_
  refine J_iload_n C 4 dX0_write_21 rfl ?_
  refine cast hG C 23 60 (by decide) dX0_write_22 (by omega) (by omega) ?_
  refine J_aload_n C 1 dX0_write_23 rfl ?_
  refine g_X0_9 hG C dX0_write_24 ?_
  refine J_iload C 0 dX0_write_27 rfl ?_
  refine J_iconst C dX0_write_29 ?_
  refine J_iadd C dX0_write_30 ?_
  refine J_iload C 5 dX0_write_31 rfl ?_
  refine cast hG C 23 60 (by decide) dX0_write_33 (by omega) (by omega) ?_
  refine J_aload_n C 1 dX0_write_34 rfl ?_
  refine g_X0_9 hG C dX0_write_35 ?_
  refine J_iload C 0 dX0_write_38 rfl ?_
  refine J_iconst C dX0_write_40 ?_
  refine J_iadd C dX0_write_41 ?_
  refine J_iload C 6 dX0_write_42 rfl ?_
  refine cast hG C 23 60 (by decide) dX0_write_44 (by omega) (by omega) ?_
  exact J_vret R C dX0_write_45 (jPv.mk (by rfl))
theorem l_cutp {E : jEnv} {G : jG} (hG : cG G) (C : jX E G cX0_cutPlaces 9 RX0 1 21) (S : jMem) (s a : Int) (hl : lOK S) (hs : csOK S s) (ha : 0 ≤ a ∧ a < 3) (R : jR E G (some .int) (jPi (fun v S' => cpA S s a v ∧ S = S'))) : ∀ (mm : Nat) (e g i k : Int), mm = (8 - k).toNat → ((0 ≤ k ∧ k ≤ 8) ∧ cpI S s a k e g i) → J E G 12 [(0, .ref (jad G 22)), (1, .int (iI (s))), (2, .int (iI (a))), (3, .int (iI (e))), (4, .int (iI (g))), (5, .int (iI (i))), (6, .int (iI (k)))] [] S := by
  intro mm
  induction mm using Nat.strongRecOn with | ind mm ih => ?_
  intro e g i k hm hi
  obtain ⟨hk0, hj⟩ := hi
  have he := hj.1
  have hg := hj.2.1
  have hs1 := hs.1
  have hd := zdiv_in (x := s) (by omega) k.toNat
  refine J_iload C 6 dX0_cutPlaces_12 rfl ?_
  refine J_bipush C dX0_cutPlaces_14 (by decide) ?_
  refine J_icmp_ge C 97 dX0_cutPlaces_16 (by decide) (by omega) (by omega) (fun h1 => ?_) (fun h1 => ?_)
  · refine J_iload C 4 dX0_cutPlaces_97 rfl ?_
    refine J_iload_n C 3 dX0_cutPlaces_99 rfl ?_
    refine J_icmp_ge C 105 dX0_cutPlaces_100 (by decide) (by omega) (by omega) (fun h2 => ?_) (fun h2 => ?_)
    · have hr := rng_in (e := e) (g := g + 1) (by omega) (by omega) (by omega)
      have hi21 := hj.2.2.1
      rw [← two_pow _ hj.2.1.1, show (2 : Int) ^ 21 = 2097152 from rfl] at hr
      rw [show (2 : Int) ^ 21 = 2097152 from rfl] at hi21
      refine J_iconst C dX0_cutPlaces_105 ?_
      refine J_iload C 4 dX0_cutPlaces_106 rfl ?_
      refine J_ishl C dX0_cutPlaces_108 (by omega) (by omega) ?_
      refine J_iconst C dX0_cutPlaces_109 ?_
      refine J_iload_n C 3 dX0_cutPlaces_110 rfl ?_
      refine J_ishl C dX0_cutPlaces_111 (by omega) (by omega) ?_
      refine J_isub C dX0_cutPlaces_112 ?_
      refine J_iload C 5 dX0_cutPlaces_113 rfl ?_
      refine J_iconst C dX0_cutPlaces_115 ?_
      refine J_ixor C (-(i) - 1) dX0_cutPlaces_116 (iI_not _) ?_
      refine J_iand C (zandn (((2) * 2 ^ (g).toNat) - ((1) * 2 ^ (e).toNat)) (i)) dX0_cutPlaces_117 (iI_zandn (by omega) (by omega) (by omega) (by omega)) ?_
      have e8 : k = 8 := by omega
      rw [e8] at hj
      exact J_iret R C dX0_cutPlaces_118 (jPi.mk ⟨hj.some hs ha (by omega), rfl⟩)
    · refine J_iconst C dX0_cutPlaces_103 ?_
      have e8 : k = 8 := by omega
      rw [e8] at hj
      exact J_iret R C dX0_cutPlaces_104 (jPi.mk ⟨hj.none hs (by omega), rfl⟩)
  · refine J_iload_n C 1 dX0_cutPlaces_19 rfl ?_
    refine J_iload C 6 dX0_cutPlaces_20 rfl ?_
    refine J_ishr C dX0_cutPlaces_22 (by omega) (by omega) (by omega) ?_
    refine J_iconst C dX0_cutPlaces_23 ?_
    refine J_iand C (((s) / 2 ^ (k : Int).toNat) % 2) dX0_cutPlaces_24 (iI_and1 _ (by omega)) ?_
    refine J_iconst C dX0_cutPlaces_25 ?_
    refine J_icmp_ne C 91 dX0_cutPlaces_26 (by decide) (by omega) (by omega) (fun h3 => ?_) (fun h3 => ?_)
    · refine J_iinc (lv' := [(6, .int (iI (k + 1))), (0, .ref (jad G 22)), (1, .int (iI (s))), (2, .int (iI (a))), (3, .int (iI (e))), (4, .int (iI (g))), (5, .int (iI (i)))]) C 6 dX0_cutPlaces_91 rfl (by decide) rfl ?_
      refine J_goto C 12 dX0_cutPlaces_94 (by decide) ?_
      refine J_lv [1, 2, 3, 4, 5, 6, 0] rfl ?_
      exact ih _ (by omega) _ _ _ (k + 1) rfl ⟨by omega, hj.skip (fun q => by have q2 : s / 2 ^ k.toNat % 2 = 1 := q; omega)⟩
    · have hbz : zbit s k := by show s / 2 ^ k.toNat % 2 = 1; omega
      have hsk := hs.2 k hk0.1 hbz a ha.1 ha.2
      have hr := rng_in (e := S 20 (k * 3 + a) + 1) (g := S 21 (k * 3 + a)) (by omega) (by omega) (by omega)
      rw [← two_pow _ hsk.1] at hr
      have e21 : (2 : Int) ^ 21 = 2097152 := rfl
      rw [e21] at hr
      have hi21 := hj.2.2.1
      rw [e21] at hi21
      refine J_aload_n C 0 dX0_cutPlaces_29 rfl ?_
      refine g_X0_18 hG C dX0_cutPlaces_30 ?_
      refine g_X0_52 hG C dX0_cutPlaces_33 ?_
      refine J_iload C 6 dX0_cutPlaces_36 rfl ?_
      refine J_iconst C dX0_cutPlaces_38 ?_
      refine J_imul C dX0_cutPlaces_39 ?_
      refine J_iload_n C 2 dX0_cutPlaces_40 rfl ?_
      refine J_iadd C dX0_cutPlaces_41 ?_
      refine cald hG C 20 24 (by decide) dX0_cutPlaces_42 (by omega) (by omega) ?_
      refine J_istore (lv' := [(7, .int (iI (S 20 (((k) * (3)) + (a))))), (0, .ref (jad G 22)), (1, .int (iI (s))), (2, .int (iI (a))), (3, .int (iI (e))), (4, .int (iI (g))), (5, .int (iI (i))), (6, .int (iI (k)))]) C dX0_cutPlaces_43 (by decide) rfl ?_
      refine J_aload_n C 1 dX0_cutPlaces_45 rfl ?_
      refine g_X0_18 hG C dX0_cutPlaces_46 ?_
      refine g_X0_55 hG C dX0_cutPlaces_49 ?_
      refine J_iload C 7 dX0_cutPlaces_52 rfl ?_
      refine J_iconst C dX0_cutPlaces_54 ?_
      refine J_imul C dX0_cutPlaces_55 ?_
      refine J_iload_n C 3 dX0_cutPlaces_56 rfl ?_
      refine J_iadd C dX0_cutPlaces_57 ?_
      refine cald hG C 21 24 (by decide) dX0_cutPlaces_58 (by omega) (by omega) ?_
      refine J_istore (lv' := [(8, .int (iI (S 21 (((k) * (3)) + (a))))), (7, .int (iI (S 20 (((k) * (3)) + (a))))), (0, .ref (jad G 22)), (1, .int (iI (s))), (2, .int (iI (a))), (3, .int (iI (e))), (4, .int (iI (g))), (5, .int (iI (i))), (6, .int (iI (k)))]) C dX0_cutPlaces_59 (by decide) rfl ?_
      refine J_iload_n C 5 dX0_cutPlaces_61 rfl ?_
      refine J_iload C 0 dX0_cutPlaces_62 rfl ?_
      refine J_callS (rest := []) C (c_min hG S (e) (S 21 (((k) * (3)) + (a))) (by omega) (by omega)) kc_J9_min_7cf53 kl_X0_58 dX0_cutPlaces_64 rfl rfl (by decide) (Nat.le_of_ble_eq_true rfl) (J_ki (fun v4 S4 h4 => ?_))
      obtain ⟨rfl, rfl⟩ := h4
      refine J_istore_n (lv' := [(3, .int (iI (min (e) (S 21 (((k) * (3)) + (a)))))), (8, .int (iI (S 21 (((k) * (3)) + (a))))), (7, .int (iI (S 20 (((k) * (3)) + (a))))), (0, .ref (jad G 22)), (1, .int (iI (s))), (2, .int (iI (a))), (4, .int (iI (g))), (5, .int (iI (i))), (6, .int (iI (k)))]) C dX0_cutPlaces_67 (by decide) rfl ?_
      refine J_iload C 6 dX0_cutPlaces_68 rfl ?_
      refine J_iload C 2 dX0_cutPlaces_70 rfl ?_
      refine J_callS (rest := []) C (c_max hG S (g) (S 20 (((k) * (3)) + (a))) (by omega) (by omega)) kc_J9_max_7cf53 kl_X0_63 dX0_cutPlaces_72 rfl rfl (by decide) (Nat.le_of_ble_eq_true rfl) (J_ki (fun v5 S5 h5 => ?_))
      obtain ⟨rfl, rfl⟩ := h5
      refine J_istore (lv' := [(4, .int (iI (max (g) (S 20 (((k) * (3)) + (a)))))), (3, .int (iI (min (e) (S 21 (((k) * (3)) + (a)))))), (8, .int (iI (S 21 (((k) * (3)) + (a))))), (7, .int (iI (S 20 (((k) * (3)) + (a))))), (0, .ref (jad G 22)), (1, .int (iI (s))), (2, .int (iI (a))), (5, .int (iI (i))), (6, .int (iI (k)))]) C dX0_cutPlaces_75 (by decide) rfl ?_
      refine J_iload C 7 dX0_cutPlaces_77 rfl ?_
      refine J_iconst C dX0_cutPlaces_79 ?_
      refine J_iload C 2 dX0_cutPlaces_80 rfl ?_
      refine J_ishl C dX0_cutPlaces_82 (by omega) (by omega) ?_
      refine J_iconst C dX0_cutPlaces_83 ?_
      refine J_iload C 3 dX0_cutPlaces_84 rfl ?_
      refine J_ishl C dX0_cutPlaces_86 (by omega) (by omega) ?_
      refine J_isub C dX0_cutPlaces_87 ?_
      refine J_ior C (zor (i) (((1) * 2 ^ (S 21 (((k) * (3)) + (a))).toNat) - ((2) * 2 ^ (S 20 (((k) * (3)) + (a))).toNat))) dX0_cutPlaces_88 (iI_zor (by omega) (by omega) (by omega) (by omega)) ?_
      refine J_istore (lv' := [(5, .int (iI (zor (i) (((1) * 2 ^ (S 21 (((k) * (3)) + (a))).toNat) - ((2) * 2 ^ (S 20 (((k) * (3)) + (a))).toNat))))), (4, .int (iI (max (g) (S 20 (((k) * (3)) + (a)))))), (3, .int (iI (min (e) (S 21 (((k) * (3)) + (a)))))), (8, .int (iI (S 21 (((k) * (3)) + (a))))), (7, .int (iI (S 20 (((k) * (3)) + (a))))), (0, .ref (jad G 22)), (1, .int (iI (s))), (2, .int (iI (a))), (6, .int (iI (k)))]) C dX0_cutPlaces_89 (by decide) rfl ?_
      refine J_iinc (lv' := [(6, .int (iI (k + 1))), (5, .int (iI (zor (i) (((1) * 2 ^ (S 21 (((k) * (3)) + (a))).toNat) - ((2) * 2 ^ (S 20 (((k) * (3)) + (a))).toNat))))), (4, .int (iI (max (g) (S 20 (((k) * (3)) + (a)))))), (3, .int (iI (min (e) (S 21 (((k) * (3)) + (a)))))), (8, .int (iI (S 21 (((k) * (3)) + (a))))), (7, .int (iI (S 20 (((k) * (3)) + (a))))), (0, .ref (jad G 22)), (1, .int (iI (s))), (2, .int (iI (a)))]) C 8 dX0_cutPlaces_91 rfl (by decide) rfl ?_
      refine J_goto C 12 dX0_cutPlaces_94 (by decide) ?_
      refine J_lv [6, 7, 8, 3, 2, 1, 0] rfl ?_
      exact ih _ (by omega) _ _ _ (k + 1) rfl ⟨by omega, hj.on hk0.1 hsk hbz⟩
theorem c_cutp {G : jG} (hG : cG G) (S : jMem) (s a : Int) (hl : lOK S) (hs : csOK S s) (ha : 0 ≤ a ∧ a < 3) : jM G yX0_cutPlaces cX0_cutPlaces 9 (some .int) 1 21 [.ref (jad G 22), .int (iI (s)), .int (iI (a))] S (jPi (fun v S' => cpA S s a v ∧ S = S')) := by
  refine jM.of (by decide) (Nat.le_of_ble_eq_true rfl) (fun E C R => ?_)
  show J E G 0 [(0, .ref (jad G 22)), (1, .int (iI (s))), (2, .int (iI (a)))] [] _
  refine J_bipush C dX0_cutPlaces_0 (by decide) ?_
  refine J_istore_n (lv' := [(3, .int (iI (20))), (0, .ref (jad G 22)), (1, .int (iI (s))), (2, .int (iI (a)))]) C dX0_cutPlaces_2 (by decide) rfl ?_
  refine J_iconst C dX0_cutPlaces_3 ?_
  refine J_istore (lv' := [(4, .int (iI (0))), (3, .int (iI (20))), (0, .ref (jad G 22)), (1, .int (iI (s))), (2, .int (iI (a)))]) C dX0_cutPlaces_4 (by decide) rfl ?_
  refine J_iconst C dX0_cutPlaces_6 ?_
  refine J_istore (lv' := [(5, .int (iI (0))), (4, .int (iI (0))), (3, .int (iI (20))), (0, .ref (jad G 22)), (1, .int (iI (s))), (2, .int (iI (a)))]) C dX0_cutPlaces_7 (by decide) rfl ?_
  refine J_iconst C dX0_cutPlaces_9 ?_
  refine J_istore (lv' := [(6, .int (iI (0))), (5, .int (iI (0))), (4, .int (iI (0))), (3, .int (iI (20))), (0, .ref (jad G 22)), (1, .int (iI (s))), (2, .int (iI (a)))]) C dX0_cutPlaces_10 (by decide) rfl ?_
  refine J_lv [4, 5, 6, 3, 2, 1, 0] rfl ?_
  exact l_cutp hG C S s a hl hs ha R _ 20 0 0 0 rfl ⟨by omega, by omega, by omega, ⟨by omega, by decide⟩, fun j j1 j2 => by omega, Or.inl rfl, Or.inl rfl, fun p hp => ⟨fun q => absurd q (zbit_0 p), fun ⟨j, j1, _⟩ => by omega⟩⟩
theorem l_before {E : jEnv} {G : jG} (hG : cG G) (C : jX E G cX0_boxesBefore 6 RX0 0 0) (S : jMem) (s a p : Int) (hl : lOK S) (hs : csOK S s) (ha : 0 ≤ a ∧ a < 3) (hp : inR p) (R : jR E G (some .int) (jPi (fun v S' => ((0 ≤ v ∧ v < 256) ∧ isBef (S 21) s a p v) ∧ S = S'))) : ∀ (mm : Nat) (x k : Int), mm = (8 - k).toNat → ((0 ≤ k ∧ k ≤ 8) ∧ cbI S s a p k x) → J E G 6 [(0, .ref (jad G 22)), (1, .int (iI (s))), (2, .int (iI (a))), (3, .int (iI (p))), (4, .int (iI (x))), (5, .int (iI (k)))] [] S := by
  intro mm
  induction mm using Nat.strongRecOn with | ind mm ih => ?_
  intro x k hm hi
  obtain ⟨hk0, hj⟩ := hi
  have hx := hj.1
  have hs1 := hs.1
  have hd := zdiv_in (x := s) (by omega) k.toNat
  refine J_iload C 5 dX0_boxesBefore_6 rfl ?_
  refine J_bipush C dX0_boxesBefore_8 (by decide) ?_
  refine J_icmp_ge C 56 dX0_boxesBefore_10 (by decide) (by omega) (by omega) (fun h1 => ?_) (fun h1 => ?_)
  · refine J_iload C 4 dX0_boxesBefore_56 rfl ?_
    have e8 : k = 8 := by omega
    rw [e8] at hj
    exact J_iret R C dX0_boxesBefore_58 (jPi.mk ⟨hj.done hs, rfl⟩)
  · refine J_iload_n C 1 dX0_boxesBefore_13 rfl ?_
    refine J_iload C 5 dX0_boxesBefore_14 rfl ?_
    refine J_ishr C dX0_boxesBefore_16 (by omega) (by omega) (by omega) ?_
    refine J_iconst C dX0_boxesBefore_17 ?_
    refine J_iand C (((s) / 2 ^ (k : Int).toNat) % 2) dX0_boxesBefore_18 (iI_and1 _ (by omega)) ?_
    refine J_iconst C dX0_boxesBefore_19 ?_
    refine J_icmp_ne C 50 dX0_boxesBefore_20 (by decide) (by omega) (by omega) (fun h2 => ?_) (fun h2 => ?_)
    · refine J_iinc (lv' := [(5, .int (iI (k + 1))), (0, .ref (jad G 22)), (1, .int (iI (s))), (2, .int (iI (a))), (3, .int (iI (p))), (4, .int (iI (x)))]) C 5 dX0_boxesBefore_50 rfl (by decide) rfl ?_
      refine J_goto C 6 dX0_boxesBefore_53 (by decide) ?_
      refine J_lv [1, 2, 3, 4, 5, 0] rfl ?_
      exact ih _ (by omega) _ (k + 1) rfl ⟨by omega, hj.skip (fun q => by have q1 : s / 2 ^ k.toNat % 2 = 1 := q.1; have q2 := q.2; omega)⟩
    · have hbz : zbit s k := by show s / 2 ^ k.toNat % 2 = 1; omega
      have hsk := hs.2 k hk0.1 hbz a ha.1 ha.2
      refine J_aload_n C 0 dX0_boxesBefore_23 rfl ?_
      refine g_X0_18 hG C dX0_boxesBefore_24 ?_
      refine g_X0_55 hG C dX0_boxesBefore_27 ?_
      refine J_iload C 5 dX0_boxesBefore_30 rfl ?_
      refine J_iconst C dX0_boxesBefore_32 ?_
      refine J_imul C dX0_boxesBefore_33 ?_
      refine J_iload_n C 2 dX0_boxesBefore_34 rfl ?_
      refine J_iadd C dX0_boxesBefore_35 ?_
      refine cald hG C 21 24 (by decide) dX0_boxesBefore_36 (by omega) (by omega) ?_
      refine J_iload_n C 3 dX0_boxesBefore_37 rfl ?_
      refine J_icmp_gt C 50 dX0_boxesBefore_38 (by decide) (by omega) (by omega) (fun h3 => ?_) (fun h3 => ?_)
      · refine J_iinc (lv' := [(5, .int (iI (k + 1))), (0, .ref (jad G 22)), (1, .int (iI (s))), (2, .int (iI (a))), (3, .int (iI (p))), (4, .int (iI (x)))]) C 5 dX0_boxesBefore_50 rfl (by decide) rfl ?_
        refine J_goto C 6 dX0_boxesBefore_53 (by decide) ?_
        refine J_lv [1, 2, 3, 4, 5, 0] rfl ?_
        exact ih _ (by omega) _ (k + 1) rfl ⟨by omega, hj.skip (fun q => by have q1 : s / 2 ^ k.toNat % 2 = 1 := q.1; have q2 := q.2; omega)⟩
      · have hpw := zpow_in (b := k) (by omega) (by omega)
        refine J_iload C 4 dX0_boxesBefore_41 rfl ?_
        refine J_iconst C dX0_boxesBefore_43 ?_
        refine J_iload C 5 dX0_boxesBefore_44 rfl ?_
        refine J_ishl C dX0_boxesBefore_46 (by omega) (by omega) ?_
        refine J_ior C (zor (x) ((1) * 2 ^ (k).toNat)) dX0_boxesBefore_47 (iI_zor (by omega) (by omega) (by omega) (by omega)) ?_
        refine J_istore (lv' := [(4, .int (iI (zor (x) ((1) * 2 ^ (k).toNat)))), (0, .ref (jad G 22)), (1, .int (iI (s))), (2, .int (iI (a))), (3, .int (iI (p))), (5, .int (iI (k)))]) C dX0_boxesBefore_48 (by decide) rfl ?_
        refine J_iinc (lv' := [(5, .int (iI (k + 1))), (4, .int (iI (zor (x) ((1) * 2 ^ (k).toNat)))), (0, .ref (jad G 22)), (1, .int (iI (s))), (2, .int (iI (a))), (3, .int (iI (p)))]) C 5 dX0_boxesBefore_50 rfl (by decide) rfl ?_
        refine J_goto C 6 dX0_boxesBefore_53 (by decide) ?_
        refine J_lv [2, 3, 4, 5, 1, 0] rfl ?_
        exact ih _ (by omega) _ (k + 1) rfl ⟨by omega, hj.on (by omega) hbz (by omega)⟩
theorem c_before {G : jG} (hG : cG G) (S : jMem) (s a p : Int) (hl : lOK S) (hs : csOK S s) (ha : 0 ≤ a ∧ a < 3) (hp : inR p) : jM G yX0_boxesBefore cX0_boxesBefore 6 (some .int) 0 0 [.ref (jad G 22), .int (iI (s)), .int (iI (a)), .int (iI (p))] S (jPi (fun v S' => ((0 ≤ v ∧ v < 256) ∧ isBef (S 21) s a p v) ∧ S = S')) := by
  refine jM.of (by decide) (Nat.le_of_ble_eq_true rfl) (fun E C R => ?_)
  show J E G 0 [(0, .ref (jad G 22)), (1, .int (iI (s))), (2, .int (iI (a))), (3, .int (iI (p)))] [] _
  refine J_iconst C dX0_boxesBefore_0 ?_
  refine J_istore (lv' := [(4, .int (iI (0))), (0, .ref (jad G 22)), (1, .int (iI (s))), (2, .int (iI (a))), (3, .int (iI (p)))]) C dX0_boxesBefore_1 (by decide) rfl ?_
  refine J_iconst C dX0_boxesBefore_3 ?_
  refine J_istore (lv' := [(5, .int (iI (0))), (4, .int (iI (0))), (0, .ref (jad G 22)), (1, .int (iI (s))), (2, .int (iI (a))), (3, .int (iI (p)))]) C dX0_boxesBefore_4 (by decide) rfl ?_
  refine J_lv [2, 3, 4, 5, 1, 0] rfl ?_
  exact l_before hG C S s a p hl hs ha hp R _ 0 0 rfl ⟨by omega, by omega, fun j hj => ⟨fun q => absurd q (zbit_0 j), fun q => by omega⟩⟩
theorem axA.one {S : jMem} {s a v b : Int} (hs : csOK S s) (h : cpA S s a v) (hv : v = 0 ∧ (0 ≤ a ∧ a < 3)) (e : b = a) (p : Int) : ¬ isCut (S 20) (S 21) s b p := by
  obtain ⟨h0, h1⟩ := hv
  subst h0; subst e
  exact h.no hs h1 p
theorem axA.no {S : jMem} {s v0 v1 v2 : Int} (hs : csOK S s) (h0 : cpA S s 0 v0) (h1 : cpA S s 1 v1) (h2 : cpA S s 2 v2) (e0 : v0 = 0) (e1 : v1 = 0) (e2 : v2 = 0) : axA S s (-9) := Or.inr ⟨fun a p a1 a2 => by
  rcases (show a = 0 ∨ a = 1 ∨ a = 2 by omega) with e | e | e
  · exact axA.one hs h0 ⟨e0, by omega⟩ e p
  · exact axA.one hs h1 ⟨e1, by omega⟩ e p
  · exact axA.one hs h2 ⟨e2, by omega⟩ e p, rfl⟩
theorem c_axis {G : jG} (hG : cG G) (S : jMem) (s : Int) (hl : lOK S) (hs : csOK S s) : jM G yX0_axisOfCut cX0_axisOfCut 3 (some .int) 2 49 [.ref (jad G 22), .int (iI (s))] S (jPi (fun v S' => axA S s v ∧ S = S')) := by
  refine jM.of (by decide) (Nat.le_of_ble_eq_true rfl) (fun E C R => ?_)
  show J E G 0 [(0, .ref (jad G 22)), (1, .int (iI (s)))] [] _
  refine J_iconst C dX0_axisOfCut_0 ?_
  refine J_istore_n (lv' := [(2, .int (iI (0))), (0, .ref (jad G 22)), (1, .int (iI (s)))]) C dX0_axisOfCut_1 (by decide) rfl ?_
  refine J_iload_n C 0 dX0_axisOfCut_2 rfl ?_
  refine J_iconst C dX0_axisOfCut_3 ?_
  refine J_icmp_ge C 24 dX0_axisOfCut_4 (by decide) (by omega) (by omega) (fun h => absurd h (by omega)) (fun _ => ?_)
  refine J_aload_n C 1 dX0_axisOfCut_7 rfl ?_
  refine J_iload_n C 2 dX0_axisOfCut_8 rfl ?_
  refine J_iload_n C 0 dX0_axisOfCut_9 rfl ?_
  refine J_callV (k := 22) (rest := []) C (c_cutp hG S (s) (0) hl hs (by omega)) kc_X0_cutPlaces kl_X0_39 (by rw [hG.2]; decide) (by rw [hG.1]; rfl) rfl dX0_axisOfCut_10 rfl rfl (by decide) (Nat.le_of_ble_eq_true rfl) (J_ki (fun v2 S2 h2 => ?_))
  obtain ⟨ca0, hSe⟩ := h2
  subst hSe
  have cr0 := ca0.1
  rw [show (2 : Int) ^ 21 = 2097152 from rfl] at cr0
  refine J_if_eq C 18 dX0_axisOfCut_13 (by decide) (by omega) (fun h3 => ?_) (fun h3 => ?_)
  · refine J_iinc (lv' := [(2, .int (iI (1))), (0, .ref (jad G 22)), (1, .int (iI (s)))]) C 0 dX0_axisOfCut_18 rfl (by decide) rfl ?_
    refine J_goto C 2 dX0_axisOfCut_21 (by decide) ?_
    refine J_iload_n C 0 dX0_axisOfCut_2 rfl ?_
    refine J_iconst C dX0_axisOfCut_3 ?_
    refine J_icmp_ge C 24 dX0_axisOfCut_4 (by decide) (by omega) (by omega) (fun h => absurd h (by omega)) (fun _ => ?_)
    refine J_aload_n C 1 dX0_axisOfCut_7 rfl ?_
    refine J_iload_n C 2 dX0_axisOfCut_8 rfl ?_
    refine J_iload_n C 0 dX0_axisOfCut_9 rfl ?_
    refine J_callV (k := 22) (rest := []) C (c_cutp hG S (s) (1) hl hs (by omega)) kc_X0_cutPlaces kl_X0_39 (by rw [hG.2]; decide) (by rw [hG.1]; rfl) rfl dX0_axisOfCut_10 rfl rfl (by decide) (Nat.le_of_ble_eq_true rfl) (J_ki (fun v5 S5 h5 => ?_))
    obtain ⟨ca1, hSe⟩ := h5
    subst hSe
    have cr1 := ca1.1
    rw [show (2 : Int) ^ 21 = 2097152 from rfl] at cr1
    refine J_if_eq C 18 dX0_axisOfCut_13 (by decide) (by omega) (fun h6 => ?_) (fun h6 => ?_)
    · refine J_iinc (lv' := [(2, .int (iI (2))), (0, .ref (jad G 22)), (1, .int (iI (s)))]) C 0 dX0_axisOfCut_18 rfl (by decide) rfl ?_
      refine J_goto C 2 dX0_axisOfCut_21 (by decide) ?_
      refine J_iload_n C 0 dX0_axisOfCut_2 rfl ?_
      refine J_iconst C dX0_axisOfCut_3 ?_
      refine J_icmp_ge C 24 dX0_axisOfCut_4 (by decide) (by omega) (by omega) (fun h => absurd h (by omega)) (fun _ => ?_)
      refine J_aload_n C 1 dX0_axisOfCut_7 rfl ?_
      refine J_iload_n C 2 dX0_axisOfCut_8 rfl ?_
      refine J_iload_n C 0 dX0_axisOfCut_9 rfl ?_
      refine J_callV (k := 22) (rest := []) C (c_cutp hG S (s) (2) hl hs (by omega)) kc_X0_cutPlaces kl_X0_39 (by rw [hG.2]; decide) (by rw [hG.1]; rfl) rfl dX0_axisOfCut_10 rfl rfl (by decide) (Nat.le_of_ble_eq_true rfl) (J_ki (fun v8 S8 h8 => ?_))
      obtain ⟨ca2, hSe⟩ := h8
      subst hSe
      have cr2 := ca2.1
      rw [show (2 : Int) ^ 21 = 2097152 from rfl] at cr2
      refine J_if_eq C 18 dX0_axisOfCut_13 (by decide) (by omega) (fun h9 => ?_) (fun h9 => ?_)
      · refine J_iinc (lv' := [(2, .int (iI (3))), (0, .ref (jad G 22)), (1, .int (iI (s)))]) C 0 dX0_axisOfCut_18 rfl (by decide) rfl ?_
        refine J_goto C 2 dX0_axisOfCut_21 (by decide) ?_
        refine J_iload_n C 0 dX0_axisOfCut_2 rfl ?_
        refine J_iconst C dX0_axisOfCut_3 ?_
        refine J_icmp_ge C 24 dX0_axisOfCut_4 (by decide) (by omega) (by omega) (fun _ => ?_) (fun h => absurd h (by omega))
        refine J_bipush C dX0_axisOfCut_24 (by decide) ?_
        exact J_iret R C dX0_axisOfCut_26 (jPi.mk ⟨axA.no hs ca0 ca1 ca2 (by omega) (by omega) (by omega), rfl⟩)
      · refine J_iload_n C 0 dX0_axisOfCut_16 rfl ?_
        exact J_iret R C dX0_axisOfCut_17 (jPi.mk ⟨Or.inl ⟨by omega, ca2.yes (by omega), fun a p a1 a2 => (show a = 0 ∨ a = 1 by omega).elim (fun e => axA.one hs ca0 (by omega) e p) (fun e => axA.one hs ca1 (by omega) e p)⟩, rfl⟩)
    · refine J_iload_n C 0 dX0_axisOfCut_16 rfl ?_
      exact J_iret R C dX0_axisOfCut_17 (jPi.mk ⟨Or.inl ⟨by omega, ca1.yes (by omega), fun a p a1 a2 => axA.one hs ca0 (by omega) (by omega) p⟩, rfl⟩)
  · refine J_iload_n C 0 dX0_axisOfCut_16 rfl ?_
    exact J_iret R C dX0_axisOfCut_17 (jPi.mk ⟨Or.inl ⟨by omega, ca0.yes (by omega), fun a p a1 a2 => by omega⟩, rfl⟩)
theorem keeps.lok {S0 S : jMem} (h : keeps [23, 24] S0 S) (hl : lOK S0) : lOK S := by
  unfold lOK; rw [h 18 (by decide), h 20 (by decide), h 21 (by decide)]; exact hl
theorem keeps.cso {S0 S : jMem} (h : keeps [23, 24] S0 S) {x : Int} (hs : csOK S0 x) : csOK S x := by
  unfold csOK; rw [h 20 (by decide), h 21 (by decide)]; exact hs
theorem l_build {E : jEnv} {G : jG} (hG : cG G) (C : jX E G cX0_build 7 RX0 3 71) (S0 : jMem) (tot : Int) (hl : lOK S0) (R : jR E G (some .int) (jPi (fun v S' => cuEnd S0 (S0 18 4) v S'))) : ∀ (mm : Nat) (h n : Int) (S : jMem), mm = (15 - n).toNat → clI S0 (tinit (S0 18 4)) tot h n S → J E G 30 [(0, .ref (jad G 22)), (1, .int (iI (h))), (2, .int (iI (n)))] [] S := by
  intro mm
  induction mm using Nat.strongRecOn with | ind mm ih => ?_
  intro h n S hm hj
  have hbd := hj.bd
  refine J_iload_n C 2 dX0_build_30 rfl ?_
  refine J_bipush C dX0_build_31 (by decide) ?_
  refine J_icmp_ge C 179 dX0_build_33 (by decide) (by omega) (by omega) (fun h1 => ?_) (fun h1 => ?_)
  · refine J_iload_n C 2 dX0_build_179 rfl ?_
    exact J_iret R C dX0_build_180 (jPi.mk (hj.fin (by omega)))
  · refine J_iload_n C 1 dX0_build_36 rfl ?_
    refine J_if_le C 179 dX0_build_37 (by decide) (by omega) (fun h2 => ?_) (fun h2 => ?_)
    · refine J_iload_n C 2 dX0_build_179 rfl ?_
      exact J_iret R C dX0_build_180 (jPi.mk (hj.fin (by omega)))
    · refine J_aload_n C 0 dX0_build_40 rfl ?_
      refine g_X0_15 hG C dX0_build_41 ?_
      refine J_iinc (lv' := [(1, .int (iI (h + (-1)))), (0, .ref (jad G 22)), (2, .int (iI (n)))]) C 1 dX0_build_44 rfl (by decide) rfl ?_
      rw [show h + (-1) = h - 1 from rfl]
      refine J_iload_n C 0 dX0_build_47 rfl ?_
      refine cald hG C 24 9 (by decide) dX0_build_48 (by omega) (by omega) ?_
      refine J_istore_n (lv' := [(3, .int (iI (S 24 (h - 1)))), (1, .int (iI (h - 1))), (0, .ref (jad G 22)), (2, .int (iI (n)))]) C dX0_build_49 (by decide) rfl ?_
      obtain ⟨hst, h8⟩ := hj.top (by omega)
      have hx1 := hst.1
      have hz1 := zand_nn (S 24 (h - 1)) ((S 24 (h - 1)) - 1)
      have hz2 := zand_le (a := (S 24 (h - 1))) (b := (S 24 (h - 1)) - 1) (by omega)
      have hK := hj.1
      refine J_iload_n C 0 dX0_build_50 rfl ?_
      refine J_iload_n C 0 dX0_build_51 rfl ?_
      refine J_iconst C dX0_build_52 ?_
      refine J_isub C dX0_build_53 ?_
      refine J_iand C (zand (S 24 (h - 1)) ((S 24 (h - 1)) - (1))) dX0_build_54 (iI_zand (by omega) (by omega) (by omega) (by omega)) ?_
      refine J_if_ne C 76 dX0_build_55 (by decide) (by omega) (fun h3 => ?_) (fun h3 => ?_)
      · have h88 := h8 (by assumption)
        refine J_aload_n C 2 dX0_build_76 rfl ?_
        refine J_iload_n C 0 dX0_build_77 rfl ?_
        refine J_callV (k := 22) (rest := []) C (c_axis hG S (S 24 (h - 1)) (hK.lok hl) (hK.cso hst)) kc_X0_axisOfCut kl_X0_36 (by rw [hG.2]; decide) (by rw [hG.1]; rfl) rfl dX0_build_78 rfl rfl (by decide) (Nat.le_of_ble_eq_true rfl) (J_ki (fun v4 S4 h4 => ?_))
        obtain ⟨hax, hSe⟩ := h4
        subst hSe
        unfold axA at hax
        rw [hK 20 (by decide), hK 21 (by decide)] at hax
        have hvr : v4 = -9 ∨ (0 ≤ v4 ∧ v4 < 3) := hax.elim (fun q => Or.inr q.1) (fun q => Or.inl q.2)
        refine J_istore (lv' := [(4, .int (iI (v4))), (3, .int (iI (S 24 (h - 1)))), (1, .int (iI (h - 1))), (0, .ref (jad G 22)), (2, .int (iI (n)))]) C dX0_build_81 (by decide) rfl ?_
        refine J_iload C 0 dX0_build_83 rfl ?_
        refine J_bipush C dX0_build_85 (by decide) ?_
        refine J_icmp_eq C 101 dX0_build_87 (by decide) (by omega) (by omega) (fun h5 => ?_) (fun h5 => ?_)
        · refine J_iconst C dX0_build_101 ?_
          exact J_iret R C dX0_build_102 (jPi.mk (hj.fail (by omega) (by omega) (hax.elim (fun q => absurd q.1 (by omega)) And.left) hK))
        · refine J_iload_n C 2 dX0_build_90 rfl ?_
          refine J_iconst C dX0_build_91 ?_
          refine J_iadd C dX0_build_92 ?_
          refine J_aload_n C 3 dX0_build_93 rfl ?_
          refine g_X0_15 hG C dX0_build_94 ?_
          refine J_alen (k := 24) (n := 9) C (by rw [hG.2]; decide) (by rw [hG.1]; rfl) dX0_build_97 ?_
          refine J_top (b := 9) rfl ?_
          refine J_icmp_le C 103 dX0_build_98 (by decide) (by omega) (by omega) (fun h6 => ?_) (fun h6 => ?_)
          · obtain ⟨ha3, ⟨p0, hp0, hc0⟩, hno⟩ := hax.resolve_right (fun q => absurd q.2 (by omega))
            refine J_aload_n C 3 dX0_build_103 rfl ?_
            refine J_iload_n C 1 dX0_build_104 rfl ?_
            refine J_iload C 0 dX0_build_105 rfl ?_
            refine J_callV (k := 22) (rest := []) C (c_cutp hG S (S 24 (h - 1)) (v4) (hK.lok hl) (hK.cso hst) (by omega)) kc_X0_cutPlaces kl_X0_39 (by rw [hG.2]; decide) (by rw [hG.1]; rfl) rfl dX0_build_107 rfl rfl (by decide) (Nat.le_of_ble_eq_true rfl) (J_ki (fun v7 S7 h7 => ?_))
            obtain ⟨hcp, hSe⟩ := h7
            subst hSe
            have hcp2 : cpA S0 (S 24 (h - 1)) v4 v7 := by unfold cpA at hcp ⊢; rw [hK 20 (by decide), hK 21 (by decide)] at hcp; exact hcp
            have hcr := hcp2.1
            rw [show (2 : Int) ^ 21 = 2097152 from rfl] at hcr
            have hne : v7 ≠ 0 := fun e => zbit_0 p0 (by rw [← e]; exact (hcp2.2 p0 hp0).mpr hc0)
            obtain ⟨l, hlow⟩ := isLow.ex (x := v7) (by omega)
            have hl0 := hlow.1
            have hl21 := hlow.lt (k := 21) (by omega) (by show _ < (2097152 : Int); omega)
            have hfc := hcp2.first hst ha3 hlow (fun a p a1 a2 => hno a p a1 a2)
            refine J_callN (rest := []) C (c_lowest hG S (v7) l (by omega) hlow) kc_X5_lowest kl_X0_28 dX0_build_110 rfl rfl (by decide) (Nat.le_of_ble_eq_true rfl) (J_ki (fun v8 S8 h8 => ?_))
            obtain ⟨rfl, rfl⟩ := h8
            refine J_istore (lv' := [(5, .int (iI (l))), (4, .int (iI (v4))), (3, .int (iI (S 24 (h - 1)))), (1, .int (iI (h - 1))), (0, .ref (jad G 22)), (2, .int (iI (n)))]) C dX0_build_113 (by decide) rfl ?_
            refine J_aload_n C 4 dX0_build_115 rfl ?_
            refine J_iload_n C 2 dX0_build_116 rfl ?_
            refine J_iload C 1 dX0_build_117 rfl ?_
            refine J_iload C 0 dX0_build_119 rfl ?_
            refine J_callV (k := 22) (rest := []) C (c_before hG S (S 24 (h - 1)) (v4) (l) (hK.lok hl) (hK.cso hst) (by omega) (by omega)) kc_X0_boxesBefore kl_X0_43 (by rw [hG.2]; decide) (by rw [hG.1]; rfl) rfl dX0_build_121 rfl rfl (by decide) (Nat.le_of_ble_eq_true rfl) (J_ki (fun v9 S9 h9 => ?_))
            obtain ⟨⟨hbr, hbf⟩, hSe⟩ := h9
            subst hSe
            rw [hK 21 (by decide)] at hbf
            refine J_istore (lv' := [(6, .int (iI (v9))), (5, .int (iI (l))), (4, .int (iI (v4))), (3, .int (iI (S 24 (h - 1)))), (1, .int (iI (h - 1))), (0, .ref (jad G 22)), (2, .int (iI (n)))]) C dX0_build_124 (by decide) rfl ?_
            refine J_aload_n C 5 dX0_build_126 rfl ?_
            refine J_iload_n C 6 dX0_build_127 rfl ?_
            refine J_iload C 2 dX0_build_128 rfl ?_
            refine J_iload C 1 dX0_build_130 rfl ?_
            refine J_iload_n C 6 dX0_build_132 rfl ?_
            refine J_iconst C dX0_build_133 ?_
            refine J_iadd C dX0_build_134 ?_
            refine J_iload_n C 6 dX0_build_135 rfl ?_
            refine J_iconst C dX0_build_136 ?_
            refine J_iload C 0 dX0_build_137 rfl ?_
            refine J_callS (rest := [.int (iI (2)), .int (iI (n)), .int (iI ((n) + (1))), .int (iI (l)), .int (iI (v4)), .int (iI (n)), .ref (jad G 22)]) C (c_bitc hG S (v9) (by omega)) kc_J6_bitCount_0f7a4 kl_X0_47 dX0_build_139 rfl rfl (by decide) (Nat.le_of_ble_eq_true rfl) (J_ki (fun v10 S10 h10 => ?_))
            obtain ⟨rfl, rfl⟩ := h10
            have q1 := zcnt_nn (v9)
            refine J_imul C dX0_build_142 ?_
            refine J_iadd C dX0_build_143 ?_
            refine J_callV (k := 22) (rest := []) C (c_write hG S (n) (v4) (l) ((n) + (1)) ((n) + ((2) * (zcnt (v9)))) (by omega)) kc_X0_write kl_X0_32 (by rw [hG.2]; decide) (by rw [hG.1]; rfl) rfl dX0_build_144 rfl rfl (by decide) (Nat.le_of_ble_eq_true rfl) (J_kv (fun S11 h11 => ?_))
            subst h11
            refine J_aload_n C 5 dX0_build_147 rfl ?_
            refine g_X0_15 hG C dX0_build_148 ?_
            refine J_iload_n C 4 dX0_build_151 rfl ?_
            refine J_iinc (lv' := [(1, .int (iI (h - 1 + 1))), (6, .int (iI (v9))), (5, .int (iI (l))), (4, .int (iI (v4))), (3, .int (iI (S 24 (h - 1)))), (0, .ref (jad G 22)), (2, .int (iI (n)))]) C 4 dX0_build_152 rfl (by decide) rfl ?_
            refine J_iload_n C 4 dX0_build_155 rfl ?_
            refine J_iload C 1 dX0_build_156 rfl ?_
            refine J_iconst C dX0_build_158 ?_
            refine J_ixor C (-(v9) - 1) dX0_build_159 (iI_not _) ?_
            refine J_iand C (zandn (S 24 (h - 1)) (v9)) dX0_build_160 (iI_zandn (by omega) (by omega) (by omega) (by omega)) ?_
            refine cast hG C 24 9 (by decide) dX0_build_161 (by omega) (by omega) ?_
            refine J_aload_n C 5 dX0_build_162 rfl ?_
            refine g_X0_15 hG C dX0_build_163 ?_
            refine J_iload_n C 0 dX0_build_166 rfl ?_
            refine J_iinc (lv' := [(1, .int (iI (h - 1 + 1 + 1))), (6, .int (iI (v9))), (5, .int (iI (l))), (4, .int (iI (v4))), (3, .int (iI (S 24 (h - 1)))), (0, .ref (jad G 22)), (2, .int (iI (n)))]) C 0 dX0_build_167 rfl (by decide) rfl ?_
            refine J_iload C 1 dX0_build_170 rfl ?_
            refine cast hG C 24 9 (by decide) dX0_build_172 (by omega) (by omega) ?_
            refine J_iinc (lv' := [(2, .int (iI (n + 1))), (1, .int (iI (h - 1 + 1 + 1))), (6, .int (iI (v9))), (5, .int (iI (l))), (4, .int (iI (v4))), (3, .int (iI (S 24 (h - 1)))), (0, .ref (jad G 22))]) C 6 dX0_build_173 rfl (by decide) rfl ?_
            refine J_goto C 30 dX0_build_176 (by decide) ?_
            clear hax
            refine J_lv [6, 1, 0] rfl ?_
            rw [show h - 1 + 1 + 1 = h + 1 by omega]
            have hR := hj.cut (by omega) (by omega) hfc hbf
            exact ih _ (by omega) (h + 1) (n + 1) _ rfl (by rw [show h - 1 + 1 = h by omega]; exact hR)
          · refine J_iconst C dX0_build_101 ?_
            exact J_iret R C dX0_build_102 (jPi.mk (hj.fail (by omega) (by omega) (hax.elim (fun q => absurd q.1 (by omega)) And.left) hK))
      · obtain ⟨l, hlow⟩ := isLow.ex hx1.1
        have hl0 := hlow.1
        have hl8 := hlow.lt (k := 8) (by omega) (by show _ < (256 : Int); omega)
        refine J_aload_n C 2 dX0_build_58 rfl ?_
        refine J_iload_n C 3 dX0_build_59 rfl ?_
        refine J_bipush C dX0_build_60 (by decide) ?_
        refine J_iload_n C 0 dX0_build_62 rfl ?_
        refine J_callN (rest := [.int (iI (-9)), .int (iI (n)), .ref (jad G 22)]) C (c_lowest hG S (S 24 (h - 1)) l (by omega) hlow) kc_X5_lowest kl_X0_28 dX0_build_63 rfl rfl (by decide) (Nat.le_of_ble_eq_true rfl) (J_ki (fun v12 S12 h12 => ?_))
        obtain ⟨rfl, rfl⟩ := h12
        refine J_bipush C dX0_build_66 (by decide) ?_
        refine J_bipush C dX0_build_68 (by decide) ?_
        refine J_callV (k := 22) (rest := []) C (c_write hG S (n) (-9) (l) (-9) (-9) (by omega)) kc_X0_write kl_X0_32 (by rw [hG.2]; decide) (by rw [hG.1]; rfl) rfl dX0_build_70 rfl rfl (by decide) (Nat.le_of_ble_eq_true rfl) (J_kv (fun S13 h13 => ?_))
        subst h13
        refine J_goto C 173 dX0_build_73 (by decide) ?_
        refine J_iinc (lv' := [(2, .int (iI (n + 1))), (3, .int (iI (S 24 (h - 1)))), (1, .int (iI (h - 1))), (0, .ref (jad G 22))]) C 3 dX0_build_173 rfl (by decide) rfl ?_
        refine J_goto C 30 dX0_build_176 (by decide) ?_
        refine J_lv [3, 2, 0] rfl ?_
        exact ih _ (by omega) (h - 1) (n + 1) _ rfl (hj.leaf (by omega) hlow ((single_iff (by omega) hlow).mp (by omega)))
theorem cl_0 {S0 : jMem} : clI S0 (tinit 0) 0 0 0 S0 := ⟨keeps.rf, by rw [zs_0]; omega, fun i a b => by omega, fun _ => 0, fun m a b => by omega, fun X hX => hX⟩
theorem cl_1 {S0 : jMem} {m : Int} (hm : csOK S0 m) : clI S0 (tinit m) (2 * zcnt m - 1) 1 0 (up2 S0 24 0 m) := by
  have zc : zcnt m ≤ 8 := by
    rw [zcnt_lt (k := 8) (by have := hm.1; omega) (by show m < 256; exact hm.1.2) (by decide)]
    have := pcnt_nn (zbit m) 8
    show pcnt (zbit m) 8 ≤ 8
    omega
  have e24 : up2 S0 24 0 m 24 0 = m := up2_eq _ _ _ _
  have z1 : zs (up2 S0 24 0 m 24) 1 = zcnt m := by rw [show (1 : Int) = 0 + 1 from rfl, zs_s _ (by omega), e24, zs_0]; omega
  refine ⟨keeps.rf.up (by decide) _ _, by rw [z1]; omega, fun i a b => ?_, fun _ => 0, fun k a b => by omega, fun X hX => ?_⟩
  · have ei : i = 0 := by omega
    subst ei; rw [e24]; exact hm
  · have es : stk (up2 S0 24 0 m 24) (1 : Int).toNat = [m] := by
      show up2 S0 24 0 m 24 0 :: [] = [m]
      rw [e24]
    rw [es] at hX
    have h0 : m ≠ 0 := by have := hm.1; omega
    unfold tinit; rw [if_neg h0]; exact hX
theorem c_build {G : jG} (hG : cG G) (S0 : jMem) (hl : lOK S0) (hm : S0 18 4 ≠ 0 → csOK S0 (S0 18 4)) : jM G yX0_build cX0_build 7 (some .int) 3 71 [.ref (jad G 22)] S0 (jPi (fun v S' => cuEnd S0 (S0 18 4) v S')) := by
  refine jM.of (by decide) (Nat.le_of_ble_eq_true rfl) (fun E C R => ?_)
  show J E G 0 [(0, .ref (jad G 22))] [] _
  have hl4 := hl.1
  refine J_iconst C dX0_build_0 ?_
  refine J_istore_n (lv' := [(1, .int (iI (0))), (0, .ref (jad G 22))]) C dX0_build_1 (by decide) rfl ?_
  refine J_aload_n C 1 dX0_build_2 rfl ?_
  refine g_X0_18 hG C dX0_build_3 ?_
  refine g_X0_22 hG C dX0_build_6 ?_
  refine J_if_eq C 28 dX0_build_9 (by decide) (by omega) (fun h1 => ?_) (fun h1 => ?_)
  · refine J_iconst C dX0_build_28 ?_
    refine J_istore_n (lv' := [(2, .int (iI (0))), (1, .int (iI (0))), (0, .ref (jad G 22))]) C dX0_build_29 (by decide) rfl ?_
    refine J_lv [2, 1, 0] rfl ?_
    refine l_build hG C S0 0 hl R _ 0 0 _ rfl ?_
    have e0 : S0 18 4 = 0 := by omega
    rw [e0]
    exact cl_0
  · refine J_aload_n C 1 dX0_build_12 rfl ?_
    refine g_X0_15 hG C dX0_build_13 ?_
    refine J_iload_n C 0 dX0_build_16 rfl ?_
    refine J_iinc (lv' := [(1, .int (iI (1))), (0, .ref (jad G 22))]) C 0 dX0_build_17 rfl (by decide) rfl ?_
    refine J_aload_n C 1 dX0_build_20 rfl ?_
    refine g_X0_18 hG C dX0_build_21 ?_
    refine g_X0_22 hG C dX0_build_24 ?_
    refine cast hG C 24 9 (by decide) dX0_build_27 (by omega) (by omega) ?_
    refine J_iconst C dX0_build_28 ?_
    refine J_istore_n (lv' := [(2, .int (iI (0))), (1, .int (iI (1))), (0, .ref (jad G 22))]) C dX0_build_29 (by decide) rfl ?_
    refine J_lv [2, 1, 0] rfl ?_
    exact l_build hG C S0 _ hl R _ 1 0 _ rfl (cl_1 (hm (by omega)))
