theorem lm_needs2 {E : jEnv} {G : jG} (hG : mG G) (C : jX E G cX6_needs 14 RX6 2 48) (S : jMem) (n0 n1 n2 m k acc : Int) (hk : mOK S) (f0 : 0 ≤ n0 ∧ n0 ≤ S 1 0 / 2 * 2) (f1 : 0 ≤ n1 ∧ n1 ≤ S 1 1 / 2 * 2) (f2 : 0 ≤ n2 ∧ n2 ≤ S 1 2 / 2 * 2) (hb : 0 ≤ k ∧ k < S 0 1) : ∀ (mm : Nat) (t ls so : Int), mm = (6 - t).toNat → ((0 ≤ t ∧ t ≤ 6) ∧ mnI (phas3 (S 1) n0 n1 n2) (fun t => phas (S 4) k t ∧ pshort (S 1) (S 2) k t) (fun t => pprod (S 1) (S 2) n0 n1 n2 k t) t ls so ∧ (0 ≤ ls ∧ ls ≤ 64001)) → (∀ r, isLeast (S 1) (S 2) (S 4) n0 n1 n2 k r → J E G 199 [(0, .ref (jad G 0)), (1, .int (iI n0)), (2, .int (iI n1)), (3, .int (iI n2)), (4, .int (iI m)), (5, .long (iL acc)), (7, .int (iI k)), (8, .long (iL r))] [] S) → J E G 32 [(0, .ref (jad G 0)), (1, .int (iI (n0))), (2, .int (iI (n1))), (3, .int (iI (n2))), (4, .int (iI (m))), (5, .long (iL (acc))), (7, .int (iI (k))), (8, .long (iL (ls))), (10, .int (iI (so))), (11, .int (iI (t)))] [] S := by
  intro mm
  induction mm using Nat.strongRecOn with | ind mm ih => ?_
  intro t ls so hm hj K
  obtain ⟨ht, hj, hsl⟩ := hj
  have hn := hk.1
  have hh := has_in hk.2.1 f0 f1 f2
  have hso : so = 0 ∨ so = 1 := by rcases hj with q | q <;> omega
  have l0 := hk.2.1 0 (by omega) (by omega)
  have l1 := hk.2.1 1 (by omega) (by omega)
  have l2 := hk.2.1 2 (by omega) (by omega)
  refine J_iload C 9 dX6_needs_32 rfl ?_
  refine J_bipush C dX6_needs_34 (by decide) ?_
  refine J_icmp_ge C 199 dX6_needs_36 (by decide) (by omega) (by omega) (fun h1 => ?_) (fun h1 => ?_)
  · refine J_lv [0, 1, 2, 3, 4, 5, 6, 7] rfl ?_
    have e : t = 6 := by omega
    rw [e] at hj
    exact K ls (hj.done hk (by omega) f0 f1 f2)
  · refine J_aload_n C 0 dX6_needs_39 rfl ?_
    refine J_iload C 6 dX6_needs_40 rfl ?_
    refine J_iload C 9 dX6_needs_42 rfl ?_
    refine J_callV (k := 0) (rest := []) C (m_has hG S (k) (t) hk (by omega) (by omega)) kc_X6_has kl_X6_118 (by rw [hG.2]; decide) (by rw [hG.1]; rfl) rfl dX6_needs_44 rfl rfl (by decide) (Nat.le_of_ble_eq_true rfl) (J_ki (fun v2 S2 h2 => ?_))
    obtain ⟨rfl, rfl⟩ := h2
    refine J_if_eq_b C 193 dX6_needs_47 (by decide) (fun h3 => ?_) (fun h3 => ?_)
    · refine J_iinc (lv' := [(11, .int (iI (t + 1))), (0, .ref (jad G 0)), (1, .int (iI (n0))), (2, .int (iI (n1))), (3, .int (iI (n2))), (4, .int (iI (m))), (5, .long (iL (acc))), (7, .int (iI (k))), (8, .long (iL (ls))), (10, .int (iI (so)))]) C 9 dX6_needs_193 rfl (by decide) rfl ?_
      refine J_goto C 32 dX6_needs_196 (by decide) ?_
      refine J_lv [1, 2, 3, 4, 5, 6, 7, 8, 9, 0] rfl ?_
      refine ih _ (by omega) (t + 1) ls so rfl ⟨by omega, hj.skip (fun hq => ?_), hsl⟩ K
      have hq1 : phas (S 4) k t := hq.1
      have hq2 : pshort (S 1) (S 2) k t := hq.2
      omega
    · refine J_aload_n C 0 dX6_needs_50 rfl ?_
      refine J_iload C 6 dX6_needs_51 rfl ?_
      refine J_iload C 9 dX6_needs_53 rfl ?_
      refine J_iconst C dX6_needs_55 ?_
      refine J_callV (k := 0) (rest := []) C (m_extent hG S (k) (t) (0) (by omega) (by omega) (by omega)) kc_X6_extent kl_X6_121 (by rw [hG.2]; decide) (by rw [hG.1]; rfl) rfl dX6_needs_56 rfl rfl (by decide) (Nat.le_of_ble_eq_true rfl) (J_ki (fun v4 S4 h4 => ?_))
      obtain ⟨rfl, rfl⟩ := h4
      have q1 := pext_in hk (b := k) (t := t) (a := 0) (by omega) (by omega)
      refine J_aload_n C 0 dX6_needs_59 rfl ?_
      refine g_X6_7 hG C dX6_needs_60 ?_
      refine J_iconst C dX6_needs_63 ?_
      refine mald hG C 1 3 (by decide) dX6_needs_64 (by omega) (by omega) ?_
      refine J_icmp_gt C 193 dX6_needs_65 (by decide) (by omega) (by omega) (fun h5 => ?_) (fun h5 => ?_)
      · refine J_iinc (lv' := [(11, .int (iI (t + 1))), (0, .ref (jad G 0)), (1, .int (iI (n0))), (2, .int (iI (n1))), (3, .int (iI (n2))), (4, .int (iI (m))), (5, .long (iL (acc))), (7, .int (iI (k))), (8, .long (iL (ls))), (10, .int (iI (so)))]) C 9 dX6_needs_193 rfl (by decide) rfl ?_
        refine J_goto C 32 dX6_needs_196 (by decide) ?_
        refine J_lv [1, 2, 3, 4, 5, 6, 7, 8, 9, 0] rfl ?_
        refine ih _ (by omega) (t + 1) ls so rfl ⟨by omega, hj.skip (fun hq => ?_), hsl⟩ K
        have hq1 : phas (S 4) k t := hq.1
        have hq2 : pshort (S 1) (S 2) k t := hq.2
        omega
      · refine J_aload_n C 0 dX6_needs_68 rfl ?_
        refine J_iload C 6 dX6_needs_69 rfl ?_
        refine J_iload C 9 dX6_needs_71 rfl ?_
        refine J_iconst C dX6_needs_73 ?_
        refine J_callV (k := 0) (rest := []) C (m_extent hG S (k) (t) (1) (by omega) (by omega) (by omega)) kc_X6_extent kl_X6_121 (by rw [hG.2]; decide) (by rw [hG.1]; rfl) rfl dX6_needs_74 rfl rfl (by decide) (Nat.le_of_ble_eq_true rfl) (J_ki (fun v6 S6 h6 => ?_))
        obtain ⟨rfl, rfl⟩ := h6
        have q2 := pext_in hk (b := k) (t := t) (a := 1) (by omega) (by omega)
        refine J_aload_n C 0 dX6_needs_77 rfl ?_
        refine g_X6_7 hG C dX6_needs_78 ?_
        refine J_iconst C dX6_needs_81 ?_
        refine mald hG C 1 3 (by decide) dX6_needs_82 (by omega) (by omega) ?_
        refine J_icmp_gt C 193 dX6_needs_83 (by decide) (by omega) (by omega) (fun h7 => ?_) (fun h7 => ?_)
        · refine J_iinc (lv' := [(11, .int (iI (t + 1))), (0, .ref (jad G 0)), (1, .int (iI (n0))), (2, .int (iI (n1))), (3, .int (iI (n2))), (4, .int (iI (m))), (5, .long (iL (acc))), (7, .int (iI (k))), (8, .long (iL (ls))), (10, .int (iI (so)))]) C 9 dX6_needs_193 rfl (by decide) rfl ?_
          refine J_goto C 32 dX6_needs_196 (by decide) ?_
          refine J_lv [1, 2, 3, 4, 5, 6, 7, 8, 9, 0] rfl ?_
          refine ih _ (by omega) (t + 1) ls so rfl ⟨by omega, hj.skip (fun hq => ?_), hsl⟩ K
          have hq1 : phas (S 4) k t := hq.1
          have hq2 : pshort (S 1) (S 2) k t := hq.2
          omega
        · refine J_aload_n C 0 dX6_needs_86 rfl ?_
          refine J_iload C 6 dX6_needs_87 rfl ?_
          refine J_iload C 9 dX6_needs_89 rfl ?_
          refine J_iconst C dX6_needs_91 ?_
          refine J_callV (k := 0) (rest := []) C (m_extent hG S (k) (t) (2) (by omega) (by omega) (by omega)) kc_X6_extent kl_X6_121 (by rw [hG.2]; decide) (by rw [hG.1]; rfl) rfl dX6_needs_92 rfl rfl (by decide) (Nat.le_of_ble_eq_true rfl) (J_ki (fun v8 S8 h8 => ?_))
          obtain ⟨rfl, rfl⟩ := h8
          have q3 := pext_in hk (b := k) (t := t) (a := 2) (by omega) (by omega)
          refine J_aload_n C 0 dX6_needs_95 rfl ?_
          refine g_X6_7 hG C dX6_needs_96 ?_
          refine J_iconst C dX6_needs_99 ?_
          refine mald hG C 1 3 (by decide) dX6_needs_100 (by omega) (by omega) ?_
          refine J_icmp_gt C 193 dX6_needs_101 (by decide) (by omega) (by omega) (fun h9 => ?_) (fun h9 => ?_)
          · refine J_iinc (lv' := [(11, .int (iI (t + 1))), (0, .ref (jad G 0)), (1, .int (iI (n0))), (2, .int (iI (n1))), (3, .int (iI (n2))), (4, .int (iI (m))), (5, .long (iL (acc))), (7, .int (iI (k))), (8, .long (iL (ls))), (10, .int (iI (so)))]) C 9 dX6_needs_193 rfl (by decide) rfl ?_
            refine J_goto C 32 dX6_needs_196 (by decide) ?_
            refine J_lv [1, 2, 3, 4, 5, 6, 7, 8, 9, 0] rfl ?_
            refine ih _ (by omega) (t + 1) ls so rfl ⟨by omega, hj.skip (fun hq => ?_), hsl⟩ K
            have hq1 : phas (S 4) k t := hq.1
            have hq2 : pshort (S 1) (S 2) k t := hq.2
            omega
          · refine J_aload_n C 0 dX6_needs_104 rfl ?_
            refine g_X6_7 hG C dX6_needs_105 ?_
            refine J_iconst C dX6_needs_108 ?_
            refine mald hG C 1 3 (by decide) dX6_needs_109 (by omega) (by omega) ?_
            refine J_iload_n C 1 dX6_needs_110 rfl ?_
            refine J_aload_n C 0 dX6_needs_111 rfl ?_
            refine J_iload C 6 dX6_needs_112 rfl ?_
            refine J_iload C 9 dX6_needs_114 rfl ?_
            refine J_iconst C dX6_needs_116 ?_
            refine J_callV (k := 0) (rest := [.int (iI (n0)), .int (iI (S 1 (0)))]) C (m_extent hG S (k) (t) (0) (by omega) (by omega) (by omega)) kc_X6_extent kl_X6_121 (by rw [hG.2]; decide) (by rw [hG.1]; rfl) rfl dX6_needs_117 rfl rfl (by decide) (Nat.le_of_ble_eq_true rfl) (J_ki (fun v10 S10 h10 => ?_))
            obtain ⟨rfl, rfl⟩ := h10
            have q4 := pext_in hk (b := k) (t := t) (a := 0) (by omega) (by omega)
            refine J_callS (rest := []) C (m_worth hG S (S 1 (0)) (n0) (pext (S 2) (k) (t) (0)) (by omega) (by omega) (by omega)) kc_X6_worth kl_X6_192 dX6_needs_120 rfl rfl (by decide) (Nat.le_of_ble_eq_true rfl) (J_ki (fun v11 S11 h11 => ?_))
            obtain ⟨rfl, rfl⟩ := h11
            have q5 := pworth_in (L := S 1 (0)) (n := n0) (x := pext (S 2) (k) (t) (0)) (by omega) (by omega) (by omega)
            refine J_i2l C dX6_needs_123 (by omega) ?_
            refine J_aload_n C 0 dX6_needs_124 rfl ?_
            refine g_X6_7 hG C dX6_needs_125 ?_
            refine J_iconst C dX6_needs_128 ?_
            refine mald hG C 1 3 (by decide) dX6_needs_129 (by omega) (by omega) ?_
            refine J_iload_n C 2 dX6_needs_130 rfl ?_
            refine J_aload_n C 0 dX6_needs_131 rfl ?_
            refine J_iload C 6 dX6_needs_132 rfl ?_
            refine J_iload C 9 dX6_needs_134 rfl ?_
            refine J_iconst C dX6_needs_136 ?_
            refine J_callV (k := 0) (rest := [.int (iI (n1)), .int (iI (S 1 (1))), .long (iL (pworth (S 1 (0)) (n0) (pext (S 2) (k) (t) (0))))]) C (m_extent hG S (k) (t) (1) (by omega) (by omega) (by omega)) kc_X6_extent kl_X6_121 (by rw [hG.2]; decide) (by rw [hG.1]; rfl) rfl dX6_needs_137 rfl rfl (by decide) (Nat.le_of_ble_eq_true rfl) (J_ki (fun v12 S12 h12 => ?_))
            obtain ⟨rfl, rfl⟩ := h12
            have q6 := pext_in hk (b := k) (t := t) (a := 1) (by omega) (by omega)
            refine J_callS (rest := [.long (iL (pworth (S 1 (0)) (n0) (pext (S 2) (k) (t) (0))))]) C (m_worth hG S (S 1 (1)) (n1) (pext (S 2) (k) (t) (1)) (by omega) (by omega) (by omega)) kc_X6_worth kl_X6_192 dX6_needs_140 rfl rfl (by decide) (Nat.le_of_ble_eq_true rfl) (J_ki (fun v13 S13 h13 => ?_))
            obtain ⟨rfl, rfl⟩ := h13
            have q7 := pworth_in (L := S 1 (1)) (n := n1) (x := pext (S 2) (k) (t) (1)) (by omega) (by omega) (by omega)
            refine J_i2l C dX6_needs_143 (by omega) ?_
            refine J_lmul C dX6_needs_144 ?_
            refine J_aload_n C 0 dX6_needs_145 rfl ?_
            refine g_X6_7 hG C dX6_needs_146 ?_
            refine J_iconst C dX6_needs_149 ?_
            refine mald hG C 1 3 (by decide) dX6_needs_150 (by omega) (by omega) ?_
            refine J_iload_n C 3 dX6_needs_151 rfl ?_
            refine J_aload_n C 0 dX6_needs_152 rfl ?_
            refine J_iload C 6 dX6_needs_153 rfl ?_
            refine J_iload C 9 dX6_needs_155 rfl ?_
            refine J_iconst C dX6_needs_157 ?_
            refine J_callV (k := 0) (rest := [.int (iI (n2)), .int (iI (S 1 (2))), .long (iL ((pworth (S 1 (0)) (n0) (pext (S 2) (k) (t) (0))) * (pworth (S 1 (1)) (n1) (pext (S 2) (k) (t) (1)))))]) C (m_extent hG S (k) (t) (2) (by omega) (by omega) (by omega)) kc_X6_extent kl_X6_121 (by rw [hG.2]; decide) (by rw [hG.1]; rfl) rfl dX6_needs_158 rfl rfl (by decide) (Nat.le_of_ble_eq_true rfl) (J_ki (fun v14 S14 h14 => ?_))
            obtain ⟨rfl, rfl⟩ := h14
            have q8 := pext_in hk (b := k) (t := t) (a := 2) (by omega) (by omega)
            refine J_callS (rest := [.long (iL ((pworth (S 1 (0)) (n0) (pext (S 2) (k) (t) (0))) * (pworth (S 1 (1)) (n1) (pext (S 2) (k) (t) (1)))))]) C (m_worth hG S (S 1 (2)) (n2) (pext (S 2) (k) (t) (2)) (by omega) (by omega) (by omega)) kc_X6_worth kl_X6_192 dX6_needs_161 rfl rfl (by decide) (Nat.le_of_ble_eq_true rfl) (J_ki (fun v15 S15 h15 => ?_))
            obtain ⟨rfl, rfl⟩ := h15
            have q9 := pworth_in (L := S 1 (2)) (n := n2) (x := pext (S 2) (k) (t) (2)) (by omega) (by omega) (by omega)
            refine J_i2l C dX6_needs_164 (by omega) ?_
            refine J_lmul C dX6_needs_165 ?_
            refine J_topl (b := pprod (S 1) (S 2) n0 n1 n2 k t) rfl ?_
            have pin := prod_in hk (b := k) (t := t) (by omega) ⟨by omega, by omega, by omega⟩ f0 f1 f2
            refine J_lstore (lv' := [(12, .long (iL (pprod (S 1) (S 2) n0 n1 n2 k t))), (0, .ref (jad G 0)), (1, .int (iI (n0))), (2, .int (iI (n1))), (3, .int (iI (n2))), (4, .int (iI (m))), (5, .long (iL (acc))), (7, .int (iI (k))), (8, .long (iL (ls))), (10, .int (iI (so))), (11, .int (iI (t)))]) C dX6_needs_166 (by decide) rfl ?_
            refine J_iload C 9 dX6_needs_168 rfl ?_
            refine J_if_eq C 186 dX6_needs_170 (by decide) (by omega) (fun h16 => ?_) (fun h16 => ?_)
            · refine J_lload C 0 dX6_needs_186 rfl ?_
              refine J_lstore (lv' := [(8, .long (iL (pprod (S 1) (S 2) n0 n1 n2 k t))), (12, .long (iL (pprod (S 1) (S 2) n0 n1 n2 k t))), (0, .ref (jad G 0)), (1, .int (iI (n0))), (2, .int (iI (n1))), (3, .int (iI (n2))), (4, .int (iI (m))), (5, .long (iL (acc))), (7, .int (iI (k))), (10, .int (iI (so))), (11, .int (iI (t)))]) C dX6_needs_188 (by decide) rfl ?_
              refine J_iconst C dX6_needs_190 ?_
              refine J_istore (lv' := [(10, .int (iI (1))), (8, .long (iL (pprod (S 1) (S 2) n0 n1 n2 k t))), (12, .long (iL (pprod (S 1) (S 2) n0 n1 n2 k t))), (0, .ref (jad G 0)), (1, .int (iI (n0))), (2, .int (iI (n1))), (3, .int (iI (n2))), (4, .int (iI (m))), (5, .long (iL (acc))), (7, .int (iI (k))), (11, .int (iI (t)))]) C dX6_needs_191 (by decide) rfl ?_
              refine J_iinc (lv' := [(11, .int (iI (t + 1))), (10, .int (iI (1))), (8, .long (iL (pprod (S 1) (S 2) n0 n1 n2 k t))), (12, .long (iL (pprod (S 1) (S 2) n0 n1 n2 k t))), (0, .ref (jad G 0)), (1, .int (iI (n0))), (2, .int (iI (n1))), (3, .int (iI (n2))), (4, .int (iI (m))), (5, .long (iL (acc))), (7, .int (iI (k)))]) C 10 dX6_needs_193 rfl (by decide) rfl ?_
              refine J_goto C 32 dX6_needs_196 (by decide) ?_
              refine J_lv [4, 5, 6, 7, 8, 9, 10, 2, 1, 0] rfl ?_
              exact ih _ (by omega) (t + 1) _ 1 rfl ⟨by omega, hj.new ht.1 ⟨by omega, by omega⟩ (by show so = 0 ∨ pprod (S 1) (S 2) n0 n1 n2 k t ≤ ls; omega), by omega⟩ K
            · refine J_lload C 8 dX6_needs_173 rfl ?_
              refine J_lload C 0 dX6_needs_175 rfl ?_
              refine J_lcmpv C dX6_needs_177 (by omega) (by omega) ?_
              have lz17 := lcv_is (ls) (pprod (S 1) (S 2) n0 n1 n2 k t)
              refine J_if_ge C 186 dX6_needs_178 (by decide) (by omega) (fun h18 => ?_) (fun h18 => ?_)
              · refine J_lload C 0 dX6_needs_186 rfl ?_
                refine J_lstore (lv' := [(8, .long (iL (pprod (S 1) (S 2) n0 n1 n2 k t))), (12, .long (iL (pprod (S 1) (S 2) n0 n1 n2 k t))), (0, .ref (jad G 0)), (1, .int (iI (n0))), (2, .int (iI (n1))), (3, .int (iI (n2))), (4, .int (iI (m))), (5, .long (iL (acc))), (7, .int (iI (k))), (10, .int (iI (so))), (11, .int (iI (t)))]) C dX6_needs_188 (by decide) rfl ?_
                refine J_iconst C dX6_needs_190 ?_
                refine J_istore (lv' := [(10, .int (iI (1))), (8, .long (iL (pprod (S 1) (S 2) n0 n1 n2 k t))), (12, .long (iL (pprod (S 1) (S 2) n0 n1 n2 k t))), (0, .ref (jad G 0)), (1, .int (iI (n0))), (2, .int (iI (n1))), (3, .int (iI (n2))), (4, .int (iI (m))), (5, .long (iL (acc))), (7, .int (iI (k))), (11, .int (iI (t)))]) C dX6_needs_191 (by decide) rfl ?_
                refine J_iinc (lv' := [(11, .int (iI (t + 1))), (10, .int (iI (1))), (8, .long (iL (pprod (S 1) (S 2) n0 n1 n2 k t))), (12, .long (iL (pprod (S 1) (S 2) n0 n1 n2 k t))), (0, .ref (jad G 0)), (1, .int (iI (n0))), (2, .int (iI (n1))), (3, .int (iI (n2))), (4, .int (iI (m))), (5, .long (iL (acc))), (7, .int (iI (k)))]) C 10 dX6_needs_193 rfl (by decide) rfl ?_
                refine J_goto C 32 dX6_needs_196 (by decide) ?_
                refine J_lv [4, 5, 6, 7, 8, 9, 10, 2, 1, 0] rfl ?_
                exact ih _ (by omega) (t + 1) _ 1 rfl ⟨by omega, hj.new ht.1 ⟨by omega, by omega⟩ (by show so = 0 ∨ pprod (S 1) (S 2) n0 n1 n2 k t ≤ ls; omega), by omega⟩ K
              · refine J_lload C 8 dX6_needs_181 rfl ?_
                refine J_goto C 188 dX6_needs_183 (by decide) ?_
                refine J_lstore (lv' := [(8, .long (iL (ls))), (12, .long (iL (pprod (S 1) (S 2) n0 n1 n2 k t))), (0, .ref (jad G 0)), (1, .int (iI (n0))), (2, .int (iI (n1))), (3, .int (iI (n2))), (4, .int (iI (m))), (5, .long (iL (acc))), (7, .int (iI (k))), (10, .int (iI (so))), (11, .int (iI (t)))]) C dX6_needs_188 (by decide) rfl ?_
                refine J_iconst C dX6_needs_190 ?_
                refine J_istore (lv' := [(10, .int (iI (1))), (8, .long (iL (ls))), (12, .long (iL (pprod (S 1) (S 2) n0 n1 n2 k t))), (0, .ref (jad G 0)), (1, .int (iI (n0))), (2, .int (iI (n1))), (3, .int (iI (n2))), (4, .int (iI (m))), (5, .long (iL (acc))), (7, .int (iI (k))), (11, .int (iI (t)))]) C dX6_needs_191 (by decide) rfl ?_
                refine J_iinc (lv' := [(11, .int (iI (t + 1))), (10, .int (iI (1))), (8, .long (iL (ls))), (12, .long (iL (pprod (S 1) (S 2) n0 n1 n2 k t))), (0, .ref (jad G 0)), (1, .int (iI (n0))), (2, .int (iI (n1))), (3, .int (iI (n2))), (4, .int (iI (m))), (5, .long (iL (acc))), (7, .int (iI (k)))]) C 10 dX6_needs_193 rfl (by decide) rfl ?_
                refine J_goto C 32 dX6_needs_196 (by decide) ?_
                refine J_lv [4, 5, 6, 7, 8, 9, 10, 2, 1, 0] rfl ?_
                exact ih _ (by omega) (t + 1) ls 1 rfl ⟨by omega, hj.keep (by assumption) (by show ls < pprod (S 1) (S 2) n0 n1 n2 k t; omega), hsl⟩ K
theorem lm_needs1 {E : jEnv} {G : jG} (hG : mG G) (C : jX E G cX6_needs 14 RX6 2 48) (S : jMem) (n0 n1 n2 m : Int) (hk : mOK S) (f0 : 0 ≤ n0 ∧ n0 ≤ S 1 0 / 2 * 2) (f1 : 0 ≤ n1 ∧ n1 ≤ S 1 1 / 2 * 2) (f2 : 0 ≤ n2 ∧ n2 ≤ S 1 2 / 2 * 2) (hm0 : 0 ≤ m ∧ m ≤ 255) (R : jR E G (some .long) (jPl (fun v S' => pneed (S 0 1) (S 1) (S 2) (S 4) n0 n1 n2 m = v ∧ S = S'))) : ∀ (mm : Nat) (k acc : Int), mm = (S 0 1 - k).toNat → ((0 ≤ k ∧ k ≤ S 0 1) ∧ acc + isum (fun b => bb (zbit m b) * pleast (S 1) (S 2) (S 4) n0 n1 n2 b) k (S 0 1 - k).toNat = pneed (S 0 1) (S 1) (S 2) (S 4) n0 n1 n2 m) → J E G 6 [(0, .ref (jad G 0)), (1, .int (iI (n0))), (2, .int (iI (n1))), (3, .int (iI (n2))), (4, .int (iI (m))), (5, .long (iL (acc))), (7, .int (iI (k)))] [] S := by
  intro mm
  induction mm using Nat.strongRecOn with | ind mm ih => ?_
  intro k acc hm hj
  have hn := hk.1
  have hb := hj.1
  have hh := has_in hk.2.1 f0 f1 f2
  have hz := zdiv_in hm0.1 k.toNat
  refine J_iload C 6 dX6_needs_6 rfl ?_
  refine J_aload_n C 0 dX6_needs_8 rfl ?_
  refine g_X6_81 hG C dX6_needs_9 ?_
  refine J_icmp_ge C 227 dX6_needs_12 (by decide) (by omega) (by omega) (fun h1 => ?_) (fun h1 => ?_)
  · refine J_lload C 5 dX6_needs_227 rfl ?_
    exact J_lret R C dX6_needs_229 (jPl.mk ⟨by have e := isum_end (fun b => bb (zbit m b) * pleast (S 1) (S 2) (S 4) n0 n1 n2 b) (i := k) (hi := S 0 1) (by omega); omega, rfl⟩)
  · refine J_aload_n C 0 dX6_needs_15 rfl ?_
    refine J_iload_n C 1 dX6_needs_16 rfl ?_
    refine J_iload_n C 2 dX6_needs_17 rfl ?_
    refine J_iload_n C 3 dX6_needs_18 rfl ?_
    refine J_callV (k := 0) (rest := []) C (m_has3 hG S (n0) (n1) (n2) hk (by omega) (by omega) (by omega)) kc_X6_has_ kl_X6_195 (by rw [hG.2]; decide) (by rw [hG.1]; rfl) rfl dX6_needs_19 rfl rfl (by decide) (Nat.le_of_ble_eq_true rfl) (J_kl (fun v2 S2 h2 => ?_))
    obtain ⟨rfl, rfl⟩ := h2
    refine J_lconst C 1 dX6_needs_22 (by decide) ?_
    refine J_ladd C dX6_needs_23 ?_
    refine J_lstore (lv' := [(8, .long (iL ((phas3 (S 1) (n0) (n1) (n2)) + (1)))), (0, .ref (jad G 0)), (1, .int (iI (n0))), (2, .int (iI (n1))), (3, .int (iI (n2))), (4, .int (iI (m))), (5, .long (iL (acc))), (7, .int (iI (k)))]) C dX6_needs_24 (by decide) rfl ?_
    refine J_iconst C dX6_needs_26 ?_
    refine J_istore (lv' := [(10, .int (iI (0))), (8, .long (iL ((phas3 (S 1) (n0) (n1) (n2)) + (1)))), (0, .ref (jad G 0)), (1, .int (iI (n0))), (2, .int (iI (n1))), (3, .int (iI (n2))), (4, .int (iI (m))), (5, .long (iL (acc))), (7, .int (iI (k)))]) C dX6_needs_27 (by decide) rfl ?_
    refine J_iconst C dX6_needs_29 ?_
    refine J_istore (lv' := [(11, .int (iI (0))), (10, .int (iI (0))), (8, .long (iL ((phas3 (S 1) (n0) (n1) (n2)) + (1)))), (0, .ref (jad G 0)), (1, .int (iI (n0))), (2, .int (iI (n1))), (3, .int (iI (n2))), (4, .int (iI (m))), (5, .long (iL (acc))), (7, .int (iI (k)))]) C dX6_needs_30 (by decide) rfl ?_
    refine J_lv [3, 4, 5, 6, 7, 8, 9, 2, 1, 0] rfl ?_
    have e := isum_step (fun b => bb (zbit m b) * pleast (S 1) (S 2) (S 4) n0 n1 n2 b) (i := k) (hi := S 0 1) (by omega)
    refine lm_needs2 hG C S n0 n1 n2 m k acc hk f0 f1 f2 (by omega) _ 0 _ 0 rfl ⟨by omega, Or.inl ⟨rfl, rfl, fun u h1 h2 => by omega⟩, by omega⟩ (fun r hr => ?_)
    try dsimp only at e
    refine J_lload C 5 dX6_needs_199 rfl ?_
    refine J_iload C 4 dX6_needs_201 rfl ?_
    refine J_iload C 6 dX6_needs_203 rfl ?_
    refine J_ishr C dX6_needs_205 (by omega) (by omega) (by omega) ?_
    refine J_iconst C dX6_needs_206 ?_
    refine J_iand C (((m) / 2 ^ (k).toNat) % 2) dX6_needs_207 (iI_and1 _ (by omega)) ?_
    refine J_iconst C dX6_needs_208 ?_
    refine J_icmp_ne C 217 dX6_needs_209 (by decide) (by omega) (by omega) (fun h71 => ?_) (fun h71 => ?_)
    · refine J_lconst C 0 dX6_needs_217 (by decide) ?_
      refine J_ladd C dX6_needs_218 ?_
      refine J_lstore (lv' := [(5, .long (iL ((acc) + (0)))), (0, .ref (jad G 0)), (1, .int (iI (n0))), (2, .int (iI (n1))), (3, .int (iI (n2))), (4, .int (iI (m))), (7, .int (iI (k))), (8, .long (iL (r)))]) C dX6_needs_219 (by decide) rfl ?_
      refine J_iinc (lv' := [(7, .int (iI (k + 1))), (5, .long (iL ((acc) + (0)))), (0, .ref (jad G 0)), (1, .int (iI (n0))), (2, .int (iI (n1))), (3, .int (iI (n2))), (4, .int (iI (m))), (8, .long (iL (r)))]) C 6 dX6_needs_221 rfl (by decide) rfl ?_
      refine J_goto C 6 dX6_needs_224 (by decide) ?_
      rw [bb_mul_f (by assumption)] at e
      refine J_lv [2, 3, 4, 5, 6, 1, 0] rfl ?_
      exact ih _ (by omega) (k + 1) _ rfl ⟨by omega, by omega⟩
    · refine J_lload C 7 dX6_needs_212 rfl ?_
      refine J_goto C 218 dX6_needs_214 (by decide) ?_
      refine J_ladd C dX6_needs_218 ?_
      refine J_lstore (lv' := [(5, .long (iL ((acc) + (r)))), (0, .ref (jad G 0)), (1, .int (iI (n0))), (2, .int (iI (n1))), (3, .int (iI (n2))), (4, .int (iI (m))), (7, .int (iI (k))), (8, .long (iL (r)))]) C dX6_needs_219 (by decide) rfl ?_
      refine J_iinc (lv' := [(7, .int (iI (k + 1))), (5, .long (iL ((acc) + (r)))), (0, .ref (jad G 0)), (1, .int (iI (n0))), (2, .int (iI (n1))), (3, .int (iI (n2))), (4, .int (iI (m))), (8, .long (iL (r)))]) C 6 dX6_needs_221 rfl (by decide) rfl ?_
      refine J_goto C 6 dX6_needs_224 (by decide) ?_
      rw [bb_mul_t (by assumption), pleast_eq hr] at e
      refine J_lv [2, 3, 4, 5, 6, 1, 0] rfl ?_
      exact ih _ (by omega) (k + 1) _ rfl ⟨by omega, by omega⟩
theorem m_needs {G : jG} (hG : mG G) (S : jMem) (n0 n1 n2 m : Int) (hk : mOK S) (f0 : 0 ≤ n0 ∧ n0 ≤ S 1 0 / 2 * 2) (f1 : 0 ≤ n1 ∧ n1 ≤ S 1 1 / 2 * 2) (f2 : 0 ≤ n2 ∧ n2 ≤ S 1 2 / 2 * 2) (hm0 : 0 ≤ m ∧ m ≤ 255) : jM G yX6_needs cX6_needs 14 (some .long) 2 48 [.ref (jad G 0), .int (iI (n0)), .int (iI (n1)), .int (iI (n2)), .int (iI (m))] S (jPl (fun v S' => pneed (S 0 1) (S 1) (S 2) (S 4) n0 n1 n2 m = v ∧ S = S')) := by
  refine jM.of (by decide) (Nat.le_of_ble_eq_true rfl) (fun E C R => ?_)
  show J E G 0 [(0, .ref (jad G 0)), (1, .int (iI (n0))), (2, .int (iI (n1))), (3, .int (iI (n2))), (4, .int (iI (m)))] [] _
  have hn := hk.1
  refine J_lconst C 0 dX6_needs_0 (by decide) ?_
  refine J_lstore (lv' := [(5, .long (iL (0))), (0, .ref (jad G 0)), (1, .int (iI (n0))), (2, .int (iI (n1))), (3, .int (iI (n2))), (4, .int (iI (m)))]) C dX6_needs_1 (by decide) rfl ?_
  refine J_iconst C dX6_needs_3 ?_
  refine J_istore (lv' := [(7, .int (iI (0))), (5, .long (iL (0))), (0, .ref (jad G 0)), (1, .int (iI (n0))), (2, .int (iI (n1))), (3, .int (iI (n2))), (4, .int (iI (m)))]) C dX6_needs_4 (by decide) rfl ?_
  refine J_lv [2, 3, 4, 5, 6, 1, 0] rfl ?_
  exact lm_needs1 hG C S n0 n1 n2 m hk f0 f1 f2 hm0 R _ 0 0 rfl ⟨by omega, by rw [Int.zero_add]; rfl⟩
theorem m_need {G : jG} (hG : mG G) (S : jMem) (n0 n1 n2 w : Int) (hk : mOK S) (h0 : inR n0) (h1 : inR n1) (h2 : inR n2) (hw : inR w) : jM G yX6_need cX6_need 5 (some .long) 3 81 [.ref (jad G 0), .int (iI (n0)), .int (iI (n1)), .int (iI (n2)), .int (iI (w))] S (jPl (fun v S' => (if (0 ≤ n0 ∧ n0 ≤ S 1 0 / 2 * 2) ∧ (0 ≤ n1 ∧ n1 ≤ S 1 1 / 2 * 2) ∧ (0 ≤ n2 ∧ n2 ≤ S 1 2 / 2 * 2) ∧ (0 ≤ w ∧ w ≤ 1) then (if w = 1 then phas3 (S 1) n0 n1 n2 else pneed (S 0 1) (S 1) (S 2) (S 4) n0 n1 n2 255) else -1) = v ∧ S = S')) := by
  refine jM.of (by decide) (Nat.le_of_ble_eq_true rfl) (fun E C R => ?_)
  show J E G 0 [(0, .ref (jad G 0)), (1, .int (iI (n0))), (2, .int (iI (n1))), (3, .int (iI (n2))), (4, .int (iI (w)))] [] _
  have l0 := hk.2.1 0 (by omega) (by omega)
  have l1 := hk.2.1 1 (by omega) (by omega)
  have l2 := hk.2.1 2 (by omega) (by omega)
  refine J_aload_n C 0 dX6_need_0 rfl ?_
  refine J_iconst C dX6_need_1 ?_
  refine J_iload_n C 1 dX6_need_2 rfl ?_
  refine J_callV (k := 0) (rest := []) C (m_isDual hG S (0) (n0) hk (by omega) (by omega)) kc_X6_isDual kl_X6_189 (by rw [hG.2]; decide) (by rw [hG.1]; rfl) rfl dX6_need_3 rfl rfl (by decide) (Nat.le_of_ble_eq_true rfl) (J_ki (fun v1 S1 h1 => ?_))
  obtain ⟨rfl, rfl⟩ := h1
  have q10 := hk.2.1 (0) (by omega) (by omega)
  refine J_if_eq_b C 38 dX6_need_6 (by decide) (fun h2 => ?_) (fun h2 => ?_)
  · refine J_ldc2 (n := -1) C kk_X6_198 dX6_need_38 ?_
    exact J_lret R C dX6_need_41 (jPl.mk ⟨by first | (rw [if_neg (by omega)]; done) | (rw [if_pos (by omega), if_pos (by omega)]; done) | (rw [if_pos (by omega), if_neg (by omega)]; done), rfl⟩)
  · refine J_aload_n C 0 dX6_need_9 rfl ?_
    refine J_iconst C dX6_need_10 ?_
    refine J_iload_n C 2 dX6_need_11 rfl ?_
    refine J_callV (k := 0) (rest := []) C (m_isDual hG S (1) (n1) hk (by omega) (by omega)) kc_X6_isDual kl_X6_189 (by rw [hG.2]; decide) (by rw [hG.1]; rfl) rfl dX6_need_12 rfl rfl (by decide) (Nat.le_of_ble_eq_true rfl) (J_ki (fun v3 S3 h3 => ?_))
    obtain ⟨rfl, rfl⟩ := h3
    have q11 := hk.2.1 (1) (by omega) (by omega)
    refine J_if_eq_b C 38 dX6_need_15 (by decide) (fun h4 => ?_) (fun h4 => ?_)
    · refine J_ldc2 (n := -1) C kk_X6_198 dX6_need_38 ?_
      exact J_lret R C dX6_need_41 (jPl.mk ⟨by first | (rw [if_neg (by omega)]; done) | (rw [if_pos (by omega), if_pos (by omega)]; done) | (rw [if_pos (by omega), if_neg (by omega)]; done), rfl⟩)
    · refine J_aload_n C 0 dX6_need_18 rfl ?_
      refine J_iconst C dX6_need_19 ?_
      refine J_iload_n C 3 dX6_need_20 rfl ?_
      refine J_callV (k := 0) (rest := []) C (m_isDual hG S (2) (n2) hk (by omega) (by omega)) kc_X6_isDual kl_X6_189 (by rw [hG.2]; decide) (by rw [hG.1]; rfl) rfl dX6_need_21 rfl rfl (by decide) (Nat.le_of_ble_eq_true rfl) (J_ki (fun v5 S5 h5 => ?_))
      obtain ⟨rfl, rfl⟩ := h5
      have q12 := hk.2.1 (2) (by omega) (by omega)
      refine J_if_eq_b C 38 dX6_need_24 (by decide) (fun h6 => ?_) (fun h6 => ?_)
      · refine J_ldc2 (n := -1) C kk_X6_198 dX6_need_38 ?_
        exact J_lret R C dX6_need_41 (jPl.mk ⟨by first | (rw [if_neg (by omega)]; done) | (rw [if_pos (by omega), if_pos (by omega)]; done) | (rw [if_pos (by omega), if_neg (by omega)]; done), rfl⟩)
      · refine J_iload C 4 dX6_need_27 rfl ?_
        refine J_if_lt C 38 dX6_need_29 (by decide) (by omega) (fun h7 => ?_) (fun h7 => ?_)
        · refine J_ldc2 (n := -1) C kk_X6_198 dX6_need_38 ?_
          exact J_lret R C dX6_need_41 (jPl.mk ⟨by first | (rw [if_neg (by omega)]; done) | (rw [if_pos (by omega), if_pos (by omega)]; done) | (rw [if_pos (by omega), if_neg (by omega)]; done), rfl⟩)
        · refine J_iload C 4 dX6_need_32 rfl ?_
          refine J_iconst C dX6_need_34 ?_
          refine J_icmp_le C 42 dX6_need_35 (by decide) (by omega) (by omega) (fun h8 => ?_) (fun h8 => ?_)
          · refine J_iload C 4 dX6_need_42 rfl ?_
            refine J_iconst C dX6_need_44 ?_
            refine J_icmp_ne C 58 dX6_need_45 (by decide) (by omega) (by omega) (fun h9 => ?_) (fun h9 => ?_)
            · refine J_aload_n C 0 dX6_need_58 rfl ?_
              refine J_iload_n C 1 dX6_need_59 rfl ?_
              refine J_iload_n C 2 dX6_need_60 rfl ?_
              refine J_iload_n C 3 dX6_need_61 rfl ?_
              refine J_sipush C dX6_need_62 (by decide) ?_
              refine J_callV (k := 0) (rest := []) C (m_needs hG S (n0) (n1) (n2) (255) hk (by omega) (by omega) (by omega) (by omega)) kc_X6_needs kl_X6_200 (by rw [hG.2]; decide) (by rw [hG.1]; rfl) rfl dX6_need_65 rfl rfl (by decide) (Nat.le_of_ble_eq_true rfl) (J_kl (fun v10 S10 h10 => ?_))
              obtain ⟨rfl, rfl⟩ := h10
              exact J_lret R C dX6_need_68 (jPl.mk ⟨by first | (rw [if_neg (by omega)]; done) | (rw [if_pos (by omega), if_pos (by omega)]; done) | (rw [if_pos (by omega), if_neg (by omega)]; done), rfl⟩)
            · refine J_aload_n C 0 dX6_need_48 rfl ?_
              refine J_iload_n C 1 dX6_need_49 rfl ?_
              refine J_iload_n C 2 dX6_need_50 rfl ?_
              refine J_iload_n C 3 dX6_need_51 rfl ?_
              refine J_callV (k := 0) (rest := []) C (m_has3 hG S (n0) (n1) (n2) hk (by omega) (by omega) (by omega)) kc_X6_has_ kl_X6_195 (by rw [hG.2]; decide) (by rw [hG.1]; rfl) rfl dX6_need_52 rfl rfl (by decide) (Nat.le_of_ble_eq_true rfl) (J_kl (fun v11 S11 h11 => ?_))
              obtain ⟨rfl, rfl⟩ := h11
              refine J_goto C 68 dX6_need_55 (by decide) ?_
              exact J_lret R C dX6_need_68 (jPl.mk ⟨by first | (rw [if_neg (by omega)]; done) | (rw [if_pos (by omega), if_pos (by omega)]; done) | (rw [if_pos (by omega), if_neg (by omega)]; done), rfl⟩)
          · refine J_ldc2 (n := -1) C kk_X6_198 dX6_need_38 ?_
            exact J_lret R C dX6_need_41 (jPl.mk ⟨by first | (rw [if_neg (by omega)]; done) | (rw [if_pos (by omega), if_pos (by omega)]; done) | (rw [if_pos (by omega), if_neg (by omega)]; done), rfl⟩)
