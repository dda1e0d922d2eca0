theorem lm_sumt {E : jEnv} {G : jG} (hG : mG G) (C : jX E G cX6_sum 9 RX6 2 45) (S0 S : jMem) (b a k v : Int) (hk : mOK S0) (hb : 0 ≤ b ∧ b < 8) (ha : 0 ≤ a ∧ a < 3) (hkb : 0 ≤ k ∧ k < S0 0 1) (hne : k ≠ b) (hv : 0 ≤ v ∧ v < 142) (hj : sumV S0 b a k.toNat v S) : ∀ (mm : Nat) (d t : Int), mm = (6 - t).toNat → ((0 ≤ t ∧ t ≤ 6) ∧ (d = 0 ∨ d = 1) ∧ (d = 1 ↔ reach (S0 2) (S0 4) b a k.toNat v ∨ anyB (fun t => phas (S0 4) k t ∧ reach (S0 2) (S0 4) b a k.toNat (v - pext (S0 2) k t a)) t)) → (∀ d, (d = 0 ∨ d = 1) → d = bb (reach (S0 2) (S0 4) b a (k.toNat + 1) v) → J E G 163 [(0, .ref (jad G 0)), (1, .int (iI b)), (2, .int (iI a)), (3, .int (iI (142 * (3 * b + a)))), (4, .int (iI k)), (5, .int (iI v)), (6, .int (iI d))] [] S) → J E G 88 [(0, .ref (jad G 0)), (1, .int (iI (b))), (2, .int (iI (a))), (3, .int (iI (142 * (3 * b + a)))), (4, .int (iI (k))), (5, .int (iI (v))), (6, .int (iI (d))), (7, .int (iI (t)))] [] S := by
  intro mm
  induction mm using Nat.strongRecOn with | ind mm ih => ?_
  intro d t hm hi K
  obtain ⟨ht, hA, hB⟩ := hi
  have hn := hk.1
  refine J_iload C 7 dX6_sum_88 rfl ?_
  refine J_bipush C dX6_sum_90 (by decide) ?_
  refine J_icmp_ge C 163 dX6_sum_92 (by decide) (by omega) (by omega) (fun h1 => ?_) (fun h1 => ?_)
  · have et : t = 6 := by omega
    rw [et] at hB
    refine J_lv [0, 1, 2, 3, 4, 5, 6] rfl ?_
    exact K d hA (bb_of hA (hB.trans (reach_s hkb.1 hne).symm))
  · refine J_aload_n C 0 dX6_sum_95 rfl ?_
    refine J_iload C 4 dX6_sum_96 rfl ?_
    refine J_iload C 7 dX6_sum_98 rfl ?_
    refine J_callV (k := 0) (rest := []) C (m_has hG S (k) (t) (hj.1.mok (by decide) hk) (by omega) (by omega)) kc_X6_has kl_X6_118 (by rw [hG.2]; decide) (by rw [hG.1]; rfl) rfl dX6_sum_100 rfl rfl (by decide) (Nat.le_of_ble_eq_true rfl) (J_ki (fun v2 S2 h2 => ?_))
    obtain ⟨rfl, rfl⟩ := h2
    refine J_top (b := bb (phas (S0 4) (k) (t))) (by rw [hj.1 4 (by decide)]) ?_
    refine J_if_eq_b C 118 dX6_sum_103 (by decide) (fun h3 => ?_) (fun h3 => ?_)
    · refine J_sipush C dX6_sum_118 (by decide) ?_
      refine J_istore (lv' := [(8, .int (iI (200))), (0, .ref (jad G 0)), (1, .int (iI (b))), (2, .int (iI (a))), (3, .int (iI (142 * (3 * b + a)))), (4, .int (iI (k))), (5, .int (iI (v))), (6, .int (iI (d))), (7, .int (iI (t)))]) C dX6_sum_121 (by decide) rfl ?_
      refine J_iload C 7 dX6_sum_123 rfl ?_
      refine J_if_ne C 150 dX6_sum_125 (by decide) (by omega) (fun h4 => ?_) (fun h4 => ?_)
      · refine J_iconst C dX6_sum_150 ?_
        refine J_goto C 155 dX6_sum_151 (by decide) ?_
        refine J_istore (lv' := [(6, .int (iI (1))), (8, .int (iI (200))), (0, .ref (jad G 0)), (1, .int (iI (b))), (2, .int (iI (a))), (3, .int (iI (142 * (3 * b + a)))), (4, .int (iI (k))), (5, .int (iI (v))), (7, .int (iI (t)))]) C dX6_sum_155 (by decide) rfl ?_
        refine J_iinc (lv' := [(7, .int (iI (t + 1))), (6, .int (iI (1))), (8, .int (iI (200))), (0, .ref (jad G 0)), (1, .int (iI (b))), (2, .int (iI (a))), (3, .int (iI (142 * (3 * b + a)))), (4, .int (iI (k))), (5, .int (iI (v)))]) C 8 dX6_sum_157 rfl (by decide) rfl ?_
        refine J_goto C 88 dX6_sum_160 (by decide) ?_
        refine J_lv [3, 4, 5, 6, 7, 8, 1, 0] rfl ?_
        refine ih _ (by omega) 1 (t + 1) rfl ⟨by omega, Or.inr rfl, rt_1 hB ht.1 ?_⟩ K
        by_cases hd : d = 1
        · exact Or.inl hd
        · first | exact Or.inr ⟨by assumption, by assumption⟩ | omega
      · refine J_iload C 0 dX6_sum_128 rfl ?_
        refine J_iload C 6 dX6_sum_130 rfl ?_
        refine J_icmp_gt C 154 dX6_sum_132 (by decide) (by omega) (by omega) (fun h5 => ?_) (fun h5 => ?_)
        · refine J_iconst C dX6_sum_154 ?_
          refine J_istore (lv' := [(6, .int (iI (0))), (8, .int (iI (200))), (0, .ref (jad G 0)), (1, .int (iI (b))), (2, .int (iI (a))), (3, .int (iI (142 * (3 * b + a)))), (4, .int (iI (k))), (5, .int (iI (v))), (7, .int (iI (t)))]) C dX6_sum_155 (by decide) rfl ?_
          refine J_iinc (lv' := [(7, .int (iI (t + 1))), (6, .int (iI (0))), (8, .int (iI (200))), (0, .ref (jad G 0)), (1, .int (iI (b))), (2, .int (iI (a))), (3, .int (iI (142 * (3 * b + a)))), (4, .int (iI (k))), (5, .int (iI (v)))]) C 8 dX6_sum_157 rfl (by decide) rfl ?_
          refine J_goto C 88 dX6_sum_160 (by decide) ?_
          refine J_lv [3, 4, 5, 6, 7, 8, 1, 0] rfl ?_
          refine ih _ (by omega) 0 (t + 1) rfl ⟨by omega, Or.inl rfl, rt_0 hB ht.1 (by omega) (fun q => ?_)⟩ K
          first | exact absurd q.1 (by assumption) | exact absurd q.2 (by assumption) | exact reach_neg hk k.toNat _ (by omega) (by omega) q.2
        · refine J_aload_n C 1 dX6_sum_135 rfl ?_
          refine g_X6_40 hG C dX6_sum_136 ?_
          refine J_iload_n C 4 dX6_sum_139 rfl ?_
          refine J_iload C 6 dX6_sum_140 rfl ?_
          refine J_iadd C dX6_sum_142 ?_
          refine J_iload C 0 dX6_sum_143 rfl ?_
          refine J_isub C dX6_sum_145 ?_
          refine mzld hG C dX6_sum_146 (by omega) (by omega) ?_
          exfalso; omega
    · refine J_aload_n C 0 dX6_sum_106 rfl ?_
      refine J_iload C 4 dX6_sum_107 rfl ?_
      refine J_iload C 7 dX6_sum_109 rfl ?_
      refine J_iload_n C 2 dX6_sum_111 rfl ?_
      refine J_callV (k := 0) (rest := []) C (m_extent hG S (k) (t) (a) (by omega) (by omega) (by omega)) kc_X6_extent kl_X6_121 (by rw [hG.2]; decide) (by rw [hG.1]; rfl) rfl dX6_sum_112 rfl rfl (by decide) (Nat.le_of_ble_eq_true rfl) (J_ki (fun v6 S6 h6 => ?_))
      obtain ⟨rfl, rfl⟩ := h6
      refine J_top (b := pext (S0 2) (k) (t) (a)) (by rw [hj.1 2 (by decide)]) ?_
      have pe := pext_in hk (b := k) (t := t) (a := a) (by omega) (by omega)
      have pp := pext_pos hk (b := k) (t := t) (a := a) (by omega) (by omega)
      refine J_goto C 121 dX6_sum_115 (by decide) ?_
      refine J_istore (lv' := [(8, .int (iI (pext (S0 2) (k) (t) (a)))), (0, .ref (jad G 0)), (1, .int (iI (b))), (2, .int (iI (a))), (3, .int (iI (142 * (3 * b + a)))), (4, .int (iI (k))), (5, .int (iI (v))), (6, .int (iI (d))), (7, .int (iI (t)))]) C dX6_sum_121 (by decide) rfl ?_
      refine J_iload C 7 dX6_sum_123 rfl ?_
      refine J_if_ne C 150 dX6_sum_125 (by decide) (by omega) (fun h7 => ?_) (fun h7 => ?_)
      · refine J_iconst C dX6_sum_150 ?_
        refine J_goto C 155 dX6_sum_151 (by decide) ?_
        refine J_istore (lv' := [(6, .int (iI (1))), (8, .int (iI (pext (S0 2) (k) (t) (a)))), (0, .ref (jad G 0)), (1, .int (iI (b))), (2, .int (iI (a))), (3, .int (iI (142 * (3 * b + a)))), (4, .int (iI (k))), (5, .int (iI (v))), (7, .int (iI (t)))]) C dX6_sum_155 (by decide) rfl ?_
        refine J_iinc (lv' := [(7, .int (iI (t + 1))), (6, .int (iI (1))), (8, .int (iI (pext (S0 2) (k) (t) (a)))), (0, .ref (jad G 0)), (1, .int (iI (b))), (2, .int (iI (a))), (3, .int (iI (142 * (3 * b + a)))), (4, .int (iI (k))), (5, .int (iI (v)))]) C 8 dX6_sum_157 rfl (by decide) rfl ?_
        refine J_goto C 88 dX6_sum_160 (by decide) ?_
        refine J_lv [3, 4, 5, 6, 7, 8, 1, 0] rfl ?_
        refine ih _ (by omega) 1 (t + 1) rfl ⟨by omega, Or.inr rfl, rt_1 hB ht.1 ?_⟩ K
        by_cases hd : d = 1
        · exact Or.inl hd
        · first | exact Or.inr ⟨by assumption, by assumption⟩ | omega
      · refine J_iload C 0 dX6_sum_128 rfl ?_
        refine J_iload C 6 dX6_sum_130 rfl ?_
        refine J_icmp_gt C 154 dX6_sum_132 (by decide) (by omega) (by omega) (fun h8 => ?_) (fun h8 => ?_)
        · refine J_iconst C dX6_sum_154 ?_
          refine J_istore (lv' := [(6, .int (iI (0))), (8, .int (iI (pext (S0 2) (k) (t) (a)))), (0, .ref (jad G 0)), (1, .int (iI (b))), (2, .int (iI (a))), (3, .int (iI (142 * (3 * b + a)))), (4, .int (iI (k))), (5, .int (iI (v))), (7, .int (iI (t)))]) C dX6_sum_155 (by decide) rfl ?_
          refine J_iinc (lv' := [(7, .int (iI (t + 1))), (6, .int (iI (0))), (8, .int (iI (pext (S0 2) (k) (t) (a)))), (0, .ref (jad G 0)), (1, .int (iI (b))), (2, .int (iI (a))), (3, .int (iI (142 * (3 * b + a)))), (4, .int (iI (k))), (5, .int (iI (v)))]) C 8 dX6_sum_157 rfl (by decide) rfl ?_
          refine J_goto C 88 dX6_sum_160 (by decide) ?_
          refine J_lv [3, 4, 5, 6, 7, 8, 1, 0] rfl ?_
          refine ih _ (by omega) 0 (t + 1) rfl ⟨by omega, Or.inl rfl, rt_0 hB ht.1 (by omega) (fun q => ?_)⟩ K
          first | exact absurd q.1 (by assumption) | exact absurd q.2 (by assumption) | exact reach_neg hk k.toNat _ (by omega) (by omega) q.2
        · refine J_aload_n C 1 dX6_sum_135 rfl ?_
          refine g_X6_40 hG C dX6_sum_136 ?_
          refine J_iload_n C 4 dX6_sum_139 rfl ?_
          refine J_iload C 6 dX6_sum_140 rfl ?_
          refine J_iadd C dX6_sum_142 ?_
          refine J_iload C 0 dX6_sum_143 rfl ?_
          refine J_isub C dX6_sum_145 ?_
          refine mzld hG C dX6_sum_146 (by omega) (by omega) ?_
          refine J_top (b := bb (reach (S0 2) (S0 4) b a k.toNat (v - pext (S0 2) k t a))) (by rw [show 142 * (3 * b + a) + v - pext (S0 2) k t a = 142 * (3 * b + a) + (v - pext (S0 2) k t a) by omega]; exact hj.2.2.1 _ (by omega) (by omega) (by omega)) ?_
          refine J_if_eq_b C 154 dX6_sum_147 (by decide) (fun h9 => ?_) (fun h9 => ?_)
          · refine J_iconst C dX6_sum_154 ?_
            refine J_istore (lv' := [(6, .int (iI (0))), (8, .int (iI (pext (S0 2) (k) (t) (a)))), (0, .ref (jad G 0)), (1, .int (iI (b))), (2, .int (iI (a))), (3, .int (iI (142 * (3 * b + a)))), (4, .int (iI (k))), (5, .int (iI (v))), (7, .int (iI (t)))]) C dX6_sum_155 (by decide) rfl ?_
            refine J_iinc (lv' := [(7, .int (iI (t + 1))), (6, .int (iI (0))), (8, .int (iI (pext (S0 2) (k) (t) (a)))), (0, .ref (jad G 0)), (1, .int (iI (b))), (2, .int (iI (a))), (3, .int (iI (142 * (3 * b + a)))), (4, .int (iI (k))), (5, .int (iI (v)))]) C 8 dX6_sum_157 rfl (by decide) rfl ?_
            refine J_goto C 88 dX6_sum_160 (by decide) ?_
            refine J_lv [3, 4, 5, 6, 7, 8, 1, 0] rfl ?_
            refine ih _ (by omega) 0 (t + 1) rfl ⟨by omega, Or.inl rfl, rt_0 hB ht.1 (by omega) (fun q => ?_)⟩ K
            first | exact absurd q.1 (by assumption) | exact absurd q.2 (by assumption) | exact reach_neg hk k.toNat _ (by omega) (by omega) q.2
          · refine J_iconst C dX6_sum_150 ?_
            refine J_goto C 155 dX6_sum_151 (by decide) ?_
            refine J_istore (lv' := [(6, .int (iI (1))), (8, .int (iI (pext (S0 2) (k) (t) (a)))), (0, .ref (jad G 0)), (1, .int (iI (b))), (2, .int (iI (a))), (3, .int (iI (142 * (3 * b + a)))), (4, .int (iI (k))), (5, .int (iI (v))), (7, .int (iI (t)))]) C dX6_sum_155 (by decide) rfl ?_
            refine J_iinc (lv' := [(7, .int (iI (t + 1))), (6, .int (iI (1))), (8, .int (iI (pext (S0 2) (k) (t) (a)))), (0, .ref (jad G 0)), (1, .int (iI (b))), (2, .int (iI (a))), (3, .int (iI (142 * (3 * b + a)))), (4, .int (iI (k))), (5, .int (iI (v)))]) C 8 dX6_sum_157 rfl (by decide) rfl ?_
            refine J_goto C 88 dX6_sum_160 (by decide) ?_
            refine J_lv [3, 4, 5, 6, 7, 8, 1, 0] rfl ?_
            refine ih _ (by omega) 1 (t + 1) rfl ⟨by omega, Or.inr rfl, rt_1 hB ht.1 ?_⟩ K
            by_cases hd : d = 1
            · exact Or.inl hd
            · first | exact Or.inr ⟨by assumption, by assumption⟩ | omega
theorem lm_sumv {E : jEnv} {G : jG} (hG : mG G) (C : jX E G cX6_sum 9 RX6 2 45) (S0 : jMem) (b a k : Int) (hk : mOK S0) (hb : 0 ≤ b ∧ b < 8) (ha : 0 ≤ a ∧ a < 3) (hkb : 0 ≤ k ∧ k < S0 0 1) (hne : k ≠ b) : ∀ (mm : Nat) (v : Int) (S : jMem), mm = (v + 1).toNat → ((-1 ≤ v ∧ v < 142) ∧ sumV S0 b a k.toNat v S) → (∀ S', sumI S0 b a (k.toNat + 1) S' → J E G 180 [(0, .ref (jad G 0)), (1, .int (iI b)), (2, .int (iI a)), (3, .int (iI (142 * (3 * b + a)))), (4, .int (iI k))] [] S') → J E G 63 [(0, .ref (jad G 0)), (1, .int (iI (b))), (2, .int (iI (a))), (3, .int (iI (142 * (3 * b + a)))), (4, .int (iI (k))), (5, .int (iI (v)))] [] S := by
  intro mm
  induction mm using Nat.strongRecOn with | ind mm ih => ?_
  intro v S hm hi K
  obtain ⟨hv, hj⟩ := hi
  have hn := hk.1
  refine J_iload C 5 dX6_sum_63 rfl ?_
  refine J_if_lt C 180 dX6_sum_65 (by decide) (by omega) (fun h1 => ?_) (fun h1 => ?_)
  · refine J_lv [0, 1, 2, 3, 4] rfl ?_
    exact K S (hj.i (by omega))
  · refine J_iload C 4 dX6_sum_68 rfl ?_
    refine J_iload_n C 1 dX6_sum_70 rfl ?_
    refine J_icmp_eq C 180 dX6_sum_71 (by decide) (by omega) (by omega) (fun h => absurd h (by omega)) (fun _ => ?_)
    refine J_aload_n C 0 dX6_sum_74 rfl ?_
    refine g_X6_40 hG C dX6_sum_75 ?_
    refine J_iload_n C 3 dX6_sum_78 rfl ?_
    refine J_iload C 5 dX6_sum_79 rfl ?_
    refine J_iadd C dX6_sum_81 ?_
    refine mzld hG C dX6_sum_82 (by omega) (by omega) ?_
    refine J_top (b := bb (reach (S0 2) (S0 4) b a k.toNat v)) (hj.2.2.1 v (by omega) (by omega) (by omega)) ?_
    refine J_istore (lv' := [(6, .int (iI (bb (reach (S0 2) (S0 4) b a k.toNat v)))), (0, .ref (jad G 0)), (1, .int (iI (b))), (2, .int (iI (a))), (3, .int (iI (142 * (3 * b + a)))), (4, .int (iI (k))), (5, .int (iI (v)))]) C dX6_sum_83 (by decide) rfl ?_
    refine J_iconst C dX6_sum_85 ?_
    refine J_istore (lv' := [(7, .int (iI (0))), (6, .int (iI (bb (reach (S0 2) (S0 4) b a k.toNat v)))), (0, .ref (jad G 0)), (1, .int (iI (b))), (2, .int (iI (a))), (3, .int (iI (142 * (3 * b + a)))), (4, .int (iI (k))), (5, .int (iI (v)))]) C dX6_sum_86 (by decide) rfl ?_
    refine J_lv [2, 3, 4, 5, 6, 7, 1, 0] rfl ?_
    refine lm_sumt hG C S0 S b a k v hk hb ha hkb (by assumption) (by omega) hj _ _ 0 rfl ⟨by omega, bb_or _, ⟨fun q => Or.inl (bb_1.mp q), fun q => q.elim bb_t (fun q => absurd q anyB_n)⟩⟩ (fun d hd1 hd2 => ?_)
    refine J_aload_n C 0 dX6_sum_163 rfl ?_
    refine g_X6_40 hG C dX6_sum_164 ?_
    refine J_iload_n C 3 dX6_sum_167 rfl ?_
    refine J_iload C 5 dX6_sum_168 rfl ?_
    refine J_iadd C dX6_sum_170 ?_
    refine J_iload C 6 dX6_sum_171 rfl ?_
    refine mzst hG C dX6_sum_173 (by omega) (by omega) (by omega) ?_
    refine J_iinc (lv' := [(5, .int (iI (v + (-1)))), (0, .ref (jad G 0)), (1, .int (iI (b))), (2, .int (iI (a))), (3, .int (iI (142 * (3 * b + a)))), (4, .int (iI (k))), (6, .int (iI (d)))]) C 5 dX6_sum_174 rfl (by decide) rfl ?_
    refine J_goto C 63 dX6_sum_177 (by decide) ?_
    refine J_lv [1, 2, 3, 4, 5, 0] rfl ?_
    exact ih _ (by omega) (v - 1) _ rfl ⟨by omega, hj.put (by omega) hd2⟩ K
theorem lm_sumk {E : jEnv} {G : jG} (hG : mG G) (C : jX E G cX6_sum 9 RX6 2 45) (S0 : jMem) (b a : Int) (hk : mOK S0) (hb : 0 ≤ b ∧ b < 8) (ha : 0 ≤ a ∧ a < 3) (R : jR E G none (jPv (fun S' => sumI S0 b a (S0 0 1).toNat S'))) : ∀ (mm : Nat) (k : Int) (S : jMem), mm = (S0 0 1 - k).toNat → ((0 ≤ k ∧ k ≤ S0 0 1) ∧ sumI S0 b a k.toNat S) → J E G 49 [(0, .ref (jad G 0)), (1, .int (iI (b))), (2, .int (iI (a))), (3, .int (iI (142 * (3 * b + a)))), (4, .int (iI (k)))] [] S := by
  intro mm
  induction mm using Nat.strongRecOn with | ind mm ih => ?_
  intro k S hm hi
  obtain ⟨hkb, hj⟩ := hi
  have hn := hk.1
  have e1 : S 0 1 = S0 0 1 := by rw [hj.1 0 (by decide)]
  refine J_iload C 4 dX6_sum_49 rfl ?_
  refine J_aload_n C 0 dX6_sum_51 rfl ?_
  refine g_X6_81 hG C dX6_sum_52 ?_
  refine J_icmp_ge C 186 dX6_sum_55 (by decide) (by omega) (by omega) (fun h1 => ?_) (fun h1 => ?_)
  · have ek : k = S0 0 1 := by omega
    rw [ek] at hj
    exact J_vret R C dX6_sum_186 (jPv.mk hj)
  · refine J_sipush C dX6_sum_58 (by decide) ?_
    refine J_istore (lv' := [(5, .int (iI (141))), (0, .ref (jad G 0)), (1, .int (iI (b))), (2, .int (iI (a))), (3, .int (iI (142 * (3 * b + a)))), (4, .int (iI (k)))]) C dX6_sum_61 (by decide) rfl ?_
    by_cases hne : k = b
    · refine J_iload C 0 dX6_sum_63 rfl ?_
      refine J_if_lt C 180 dX6_sum_65 (by decide) (by omega) (fun h => absurd h (by omega)) (fun _ => ?_)
      refine J_iload C 5 dX6_sum_68 rfl ?_
      refine J_iload_n C 2 dX6_sum_70 rfl ?_
      refine J_icmp_eq C 180 dX6_sum_71 (by decide) (by omega) (by omega) (fun _ => ?_) (fun h => absurd hne h)
      refine J_iinc (lv' := [(4, .int (iI (k + 1))), (5, .int (iI 141)), (0, .ref (jad G 0)), (1, .int (iI b)), (2, .int (iI a)), (3, .int (iI (142 * (3 * b + a))))]) C 5 dX6_sum_180 rfl (by decide) rfl ?_
      refine J_goto C 49 dX6_sum_183 (by decide) ?_
      refine J_lv [2, 3, 4, 5, 0] rfl ?_
      have ek : (k + 1).toNat = k.toNat + 1 := by omega
      exact ih _ (by omega) (k + 1) S rfl ⟨by omega, by rw [ek]; exact hj.skip (by rw [Int.toNat_of_nonneg (by omega)]; exact hne)⟩
    · refine J_lv [1, 2, 3, 4, 5, 0] rfl ?_
      refine lm_sumv hG C S0 b a k hk hb ha (by omega) hne _ 141 S rfl ⟨by omega, hj.v⟩ (fun S2 hj2 => ?_)
      refine J_iinc (lv' := [(4, .int (iI (k + 1))), (0, .ref (jad G 0)), (1, .int (iI b)), (2, .int (iI a)), (3, .int (iI (142 * (3 * b + a))))]) C 4 dX6_sum_180 rfl (by decide) rfl ?_
      refine J_goto C 49 dX6_sum_183 (by decide) ?_
      refine J_lv [1, 2, 3, 4, 0] rfl ?_
      have ek : (k + 1).toNat = k.toNat + 1 := by omega
      exact ih _ (by omega) (k + 1) S2 rfl ⟨by omega, by rw [ek]; exact hj2⟩
def sum0 (S0 : jMem) (b a v : Int) (S : jMem) : Prop := only 11 S0 S ∧ (∀ i, (i < 142 * (3 * b + a) ∨ 142 * (3 * b + a) + 142 ≤ i) → S 11 i = S0 11 i) ∧ ∀ u, 0 ≤ u → u < v → S 11 (142 * (3 * b + a) + u) = bb (reach (S0 2) (S0 4) b a 0 u)
theorem sum0.put {S0 S : jMem} {b a v d : Int} (h : sum0 S0 b a v S) (hv : 0 ≤ v ∧ v < 142) (hd : d = bb (v = 0)) : sum0 S0 b a (v + 1) (up2 S 11 (142 * (3 * b + a) + v) d) := by
  refine ⟨h.1.up _ _, fun i hi => by rw [up2_a _ _ _ (by omega)]; exact h.2.1 i hi, fun u h1 h2 => ?_⟩
  by_cases e : u = v
  · subst e; rw [up2_eq]; exact hd
  · rw [up2_a _ _ _ (by omega)]; exact h.2.2 u h1 (by omega)
theorem lm_sum0 {E : jEnv} {G : jG} (hG : mG G) (C : jX E G cX6_sum 9 RX6 2 45) (S0 : jMem) (b a : Int) (hk : mOK S0) (hb : 0 ≤ b ∧ b < 8) (ha : 0 ≤ a ∧ a < 3) (R : jR E G none (jPv (fun S' => sumI S0 b a (S0 0 1).toNat S'))) : ∀ (mm : Nat) (v : Int) (S : jMem), mm = (142 - v).toNat → ((0 ≤ v ∧ v ≤ 142) ∧ sum0 S0 b a v S) → J E G 13 [(0, .ref (jad G 0)), (1, .int (iI (b))), (2, .int (iI (a))), (3, .int (iI (142 * (3 * b + a)))), (4, .int (iI (v)))] [] S := by
  intro mm
  induction mm using Nat.strongRecOn with | ind mm ih => ?_
  intro v S hm hi
  obtain ⟨hv, hj⟩ := hi
  have hn := hk.1
  refine J_iload C 4 dX6_sum_13 rfl ?_
  refine J_sipush C dX6_sum_15 (by decide) ?_
  refine J_icmp_ge C 46 dX6_sum_18 (by decide) (by omega) (by omega) (fun h1 => ?_) (fun h1 => ?_)
  · refine J_iconst C dX6_sum_46 ?_
    refine J_istore (lv' := [(4, .int (iI (0))), (0, .ref (jad G 0)), (1, .int (iI (b))), (2, .int (iI (a))), (3, .int (iI (142 * (3 * b + a))))]) C dX6_sum_47 (by decide) rfl ?_
    refine J_lv [1, 2, 3, 4, 0] rfl ?_
    exact lm_sumk hG C S0 b a hk hb ha R _ 0 S rfl ⟨by omega, hj.1, hj.2.1, fun u h1 h2 => hj.2.2 u h1 (by omega)⟩
  · refine J_aload_n C 0 dX6_sum_21 rfl ?_
    refine g_X6_40 hG C dX6_sum_22 ?_
    refine J_iload_n C 3 dX6_sum_25 rfl ?_
    refine J_iload C 4 dX6_sum_26 rfl ?_
    refine J_iadd C dX6_sum_28 ?_
    refine J_iload C 4 dX6_sum_29 rfl ?_
    refine J_if_ne C 38 dX6_sum_31 (by decide) (by omega) (fun h2 => ?_) (fun h2 => ?_)
    · refine J_iconst C dX6_sum_38 ?_
      refine mzst hG C dX6_sum_39 (by omega) (by omega) (by omega) ?_
      refine J_iinc (lv' := [(4, .int (iI (v + 1))), (0, .ref (jad G 0)), (1, .int (iI (b))), (2, .int (iI (a))), (3, .int (iI (142 * (3 * b + a))))]) C 4 dX6_sum_40 rfl (by decide) rfl ?_
      refine J_goto C 13 dX6_sum_43 (by decide) ?_
      refine J_lv [1, 2, 3, 4, 0] rfl ?_
      exact ih _ (by omega) (v + 1) _ rfl ⟨by omega, hj.put (by omega) (by first | exact (bb_t (by omega)).symm | exact (bb_f (by omega)).symm)⟩
    · refine J_iconst C dX6_sum_34 ?_
      refine J_goto C 39 dX6_sum_35 (by decide) ?_
      refine mzst hG C dX6_sum_39 (by omega) (by omega) (by omega) ?_
      refine J_iinc (lv' := [(4, .int (iI (v + 1))), (0, .ref (jad G 0)), (1, .int (iI (b))), (2, .int (iI (a))), (3, .int (iI (142 * (3 * b + a))))]) C 4 dX6_sum_40 rfl (by decide) rfl ?_
      refine J_goto C 13 dX6_sum_43 (by decide) ?_
      refine J_lv [1, 2, 3, 4, 0] rfl ?_
      exact ih _ (by omega) (v + 1) _ rfl ⟨by omega, hj.put (by omega) (by first | exact (bb_t (by omega)).symm | exact (bb_f (by omega)).symm)⟩
theorem m_sum {G : jG} (hG : mG G) (S0 : jMem) (b a : Int) (hk : mOK S0) (hb : 0 ≤ b ∧ b < 8) (ha : 0 ≤ a ∧ a < 3) : jM G yX6_sum cX6_sum 9 none 2 45 [.ref (jad G 0), .int (iI (b)), .int (iI (a))] S0 (jPv (fun S' => sumI S0 b a (S0 0 1).toNat S')) := by
  refine jM.of (by decide) (Nat.le_of_ble_eq_true rfl) (fun E C R => ?_)
  show J E G 0 [(0, .ref (jad G 0)), (1, .int (iI (b))), (2, .int (iI (a)))] [] _
  refine J_sipush C dX6_sum_0 (by decide) ?_
  refine J_iconst C dX6_sum_3 ?_
  refine J_iload_n C 1 dX6_sum_4 rfl ?_
  refine J_imul C dX6_sum_5 ?_
  refine J_iload_n C 2 dX6_sum_6 rfl ?_
  refine J_iadd C dX6_sum_7 ?_
  refine J_imul C dX6_sum_8 ?_
  refine J_istore_n (lv' := [(3, .int (iI ((142) * (((3) * (b)) + (a))))), (0, .ref (jad G 0)), (1, .int (iI (b))), (2, .int (iI (a)))]) C dX6_sum_9 (by decide) rfl ?_
  refine J_iconst C dX6_sum_10 ?_
  refine J_istore (lv' := [(4, .int (iI (0))), (3, .int (iI ((142) * (((3) * (b)) + (a))))), (0, .ref (jad G 0)), (1, .int (iI (b))), (2, .int (iI (a)))]) C dX6_sum_11 (by decide) rfl ?_
  refine J_lv [2, 3, 4, 1, 0] rfl ?_
  exact lm_sum0 hG C S0 b a hk hb ha R _ 0 S0 rfl ⟨by omega, only.rf, fun _ _ => rfl, fun u h1 h2 => by omega⟩
