/-- of all three that come before these none proves -/
def nlex (S : jMem) (a b c : Int) : Prop := ∀ a' b' c', (0 ≤ a' ∧ a' ≤ S 1 0 / 2 * 2) → (0 ≤ b' ∧ b' ≤ S 1 1 / 2 * 2) → (0 ≤ c' ∧ c' ≤ S 1 2 / 2 * 2) → lex3 a' b' c' a b c → ¬ pprove (S 0 1) (S 1) (S 2) (S 4) a' b' c' 255
theorem nlex.next {S : jMem} {a b c : Int} (h : nlex S a b c) (hT : ¬ pprove (S 0 1) (S 1) (S 2) (S 4) a b c 255) : nlex S a b (c + 1) := fun a' b' c' fa fb fc hl => by
  by_cases e : a' = a ∧ b' = b ∧ c' = c
  · obtain ⟨rfl, rfl, rfl⟩ := e; exact hT
  · exact h a' b' c' fa fb fc (by unfold lex3 at hl ⊢; omega)
theorem nlex.row {S : jMem} {a b c : Int} (h : nlex S a b c) (hc : S 1 2 / 2 * 2 < c) : nlex S a (b + 1) 0 := fun a' b' c' fa fb fc hl => h a' b' c' fa fb fc (by unfold lex3 at hl ⊢; omega)
theorem nlex.col {S : jMem} {a b : Int} (h : nlex S a b 0) (hb : S 1 1 / 2 * 2 < b) : nlex S (a + 1) 0 0 := fun a' b' c' fa fb fc hl => h a' b' c' fa fb fc (by unfold lex3 at hl ⊢; omega)
theorem lm_reason {E : jEnv} {G : jG} (hG : mG G) (C : jX E G cX6_prove 6 RX6 3 81) (S : jMem) (P : jMem → Prop) (a b c : Int) (hk : mOK S) (f0 : (0 ≤ a ∧ a ≤ S 1 0 / 2 * 2)) (f1 : (0 ≤ b ∧ b ≤ S 1 1 / 2 * 2)) (f2 : (0 ≤ c ∧ c ≤ S 1 2 / 2 * 2)) (hP : P (up2 S 21 3 (preason (pprove (S 0 1) (S 1) (S 2) (S 4) a b c) (S 0 1 - 0).toNat 0 (pall (S 0 1))))) (R : jR E G none (jPv P)) : ∀ (mm : Nat) (k left : Int), mm = (S 0 1 - k).toNat → ((0 ≤ k ∧ k ≤ S 0 1) ∧ (0 ≤ left ∧ left ≤ 255) ∧ preason (pprove (S 0 1) (S 1) (S 2) (S 4) a b c) (S 0 1 - k).toNat k left = preason (pprove (S 0 1) (S 1) (S 2) (S 4) a b c) (S 0 1 - 0).toNat 0 (pall (S 0 1))) → J E G 114 [(0, .ref (jad G 0)), (1, .int (iI (a))), (2, .int (iI (b))), (3, .int (iI (c))), (4, .int (iI (left))), (5, .int (iI (k)))] [] S := by
  intro mm
  induction mm using Nat.strongRecOn with | ind mm ih => ?_
  intro k left hm hj
  obtain ⟨hb, hl, hj⟩ := hj
  have hn := hk.1
  have hh := has_in hk.2.1 f0 f1 f2
  refine J_iload C 5 dX6_prove_114 rfl ?_
  refine J_aload_n C 0 dX6_prove_116 rfl ?_
  refine g_X6_81 hG C dX6_prove_117 ?_
  refine J_icmp_ge C 172 dX6_prove_120 (by decide) (by omega) (by omega) (fun h1 => ?_) (fun h1 => ?_)
  · refine J_aload_n C 0 dX6_prove_172 rfl ?_
    refine g_X6_71 hG C dX6_prove_173 ?_
    refine J_iconst C dX6_prove_176 ?_
    refine J_iload C 4 dX6_prove_177 rfl ?_
    refine mast hG C 21 4 (by decide) dX6_prove_179 (by omega) (by omega) ?_
    rw [preason_e (by omega)] at hj
    rw [hj]
    exact J_vret R C dX6_prove_180 (jPv.mk hP)
  · have hp := zpow_in hb.1 (by omega : k < 8)
    have z0 := zandn_nn left (1 * 2 ^ k.toNat)
    have z1 := zandn_le (b := 1 * 2 ^ k.toNat) hl.1
    have nin := need_in2 (m := zandn left (1 * 2 ^ k.toNat)) hk f0 f1 f2
    refine J_aload_n C 0 dX6_prove_123 rfl ?_
    refine J_iload_n C 1 dX6_prove_124 rfl ?_
    refine J_iload_n C 2 dX6_prove_125 rfl ?_
    refine J_iload_n C 3 dX6_prove_126 rfl ?_
    refine J_iload C 4 dX6_prove_127 rfl ?_
    refine J_iconst C dX6_prove_129 ?_
    refine J_iload C 5 dX6_prove_130 rfl ?_
    refine J_ishl C dX6_prove_132 (by omega) (by omega) ?_
    refine J_iconst C dX6_prove_133 ?_
    refine J_ixor C (-((1) * 2 ^ (k).toNat) - 1) dX6_prove_134 (iI_not _) ?_
    refine J_iand C (zandn (left) ((1) * 2 ^ (k).toNat)) dX6_prove_135 (iI_zandn (by omega) (by omega) (by omega) (by omega)) ?_
    refine J_callV (k := 0) (rest := []) C (m_needs hG S (a) (b) (c) (zandn (left) ((1) * 2 ^ (k).toNat)) hk (by omega) (by omega) (by omega) (by omega)) kc_X6_needs kl_X6_200 (by rw [hG.2]; decide) (by rw [hG.1]; rfl) rfl dX6_prove_136 rfl rfl (by decide) (Nat.le_of_ble_eq_true rfl) (J_kl (fun v2 S2 h2 => ?_))
    obtain ⟨rfl, rfl⟩ := h2
    refine J_aload_n C 0 dX6_prove_139 rfl ?_
    refine J_iload_n C 1 dX6_prove_140 rfl ?_
    refine J_iload_n C 2 dX6_prove_141 rfl ?_
    refine J_iload_n C 3 dX6_prove_142 rfl ?_
    refine J_callV (k := 0) (rest := [.long (iL (pneed (S 0 1) (S 1) (S 2) (S 4) (a) (b) (c) (zandn (left) ((1) * 2 ^ (k).toNat))))]) C (m_has3 hG S (a) (b) (c) hk (by omega) (by omega) (by omega)) kc_X6_has_ kl_X6_195 (by rw [hG.2]; decide) (by rw [hG.1]; rfl) rfl dX6_prove_143 rfl rfl (by decide) (Nat.le_of_ble_eq_true rfl) (J_kl (fun v3 S3 h3 => ?_))
    obtain ⟨rfl, rfl⟩ := h3
    refine J_lcmpv C dX6_prove_146 (by omega) (by omega) ?_
    have lz4 := lcv_is (pneed (S 0 1) (S 1) (S 2) (S 4) (a) (b) (c) (zandn (left) ((1) * 2 ^ (k).toNat))) (phas3 (S 1) (a) (b) (c))
    refine J_if_le C 162 dX6_prove_147 (by decide) (by omega) (fun h5 => ?_) (fun h5 => ?_)
    · refine J_iload C 4 dX6_prove_162 rfl ?_
      refine J_istore (lv' := [(4, .int (iI (left))), (0, .ref (jad G 0)), (1, .int (iI (a))), (2, .int (iI (b))), (3, .int (iI (c))), (5, .int (iI (k)))]) C dX6_prove_164 (by decide) rfl ?_
      refine J_iinc (lv' := [(5, .int (iI (k + 1))), (4, .int (iI (left))), (0, .ref (jad G 0)), (1, .int (iI (a))), (2, .int (iI (b))), (3, .int (iI (c)))]) C 5 dX6_prove_166 rfl (by decide) rfl ?_
      refine J_goto C 114 dX6_prove_169 (by decide) ?_
      rw [preason_f (by omega) (by show ¬  phas3 _ _ _ _ < pneed _ _ _ _ _ _ _ _; omega)] at hj
      refine J_lv [2, 3, 4, 5, 1, 0] rfl ?_
      exact ih _ (by omega) (k + 1) _ rfl ⟨by omega, by omega, hj⟩
    · refine J_iload C 4 dX6_prove_150 rfl ?_
      refine J_iconst C dX6_prove_152 ?_
      refine J_iload C 5 dX6_prove_153 rfl ?_
      refine J_ishl C dX6_prove_155 (by omega) (by omega) ?_
      refine J_iconst C dX6_prove_156 ?_
      refine J_ixor C (-((1) * 2 ^ (k).toNat) - 1) dX6_prove_157 (iI_not _) ?_
      refine J_iand C (zandn (left) ((1) * 2 ^ (k).toNat)) dX6_prove_158 (iI_zandn (by omega) (by omega) (by omega) (by omega)) ?_
      refine J_goto C 164 dX6_prove_159 (by decide) ?_
      refine J_istore (lv' := [(4, .int (iI (zandn (left) ((1) * 2 ^ (k).toNat)))), (0, .ref (jad G 0)), (1, .int (iI (a))), (2, .int (iI (b))), (3, .int (iI (c))), (5, .int (iI (k)))]) C dX6_prove_164 (by decide) rfl ?_
      refine J_iinc (lv' := [(5, .int (iI (k + 1))), (4, .int (iI (zandn (left) ((1) * 2 ^ (k).toNat)))), (0, .ref (jad G 0)), (1, .int (iI (a))), (2, .int (iI (b))), (3, .int (iI (c)))]) C 5 dX6_prove_166 rfl (by decide) rfl ?_
      refine J_goto C 114 dX6_prove_169 (by decide) ?_
      rw [preason_t (by omega) (by show  phas3 _ _ _ _ < pneed _ _ _ _ _ _ _ _; omega)] at hj
      refine J_lv [2, 3, 4, 5, 1, 0] rfl ?_
      exact ih _ (by omega) (k + 1) _ rfl ⟨by omega, by omega, hj⟩
theorem lm_pc {E : jEnv} {G : jG} (hG : mG G) (C : jX E G cX6_prove 6 RX6 3 81) (S : jMem) (P : jMem → Prop) (hk : mOK S) (hP0 : (∀ a b c, (0 ≤ a ∧ a ≤ S 1 0 / 2 * 2) → (0 ≤ b ∧ b ≤ S 1 1 / 2 * 2) → (0 ≤ c ∧ c ≤ S 1 2 / 2 * 2) → ¬ pprove (S 0 1) (S 1) (S 2) (S 4) a b c 255) → P S) (hP1 : ∀ a b c, (0 ≤ a ∧ a ≤ S 1 0 / 2 * 2) → (0 ≤ b ∧ b ≤ S 1 1 / 2 * 2) → (0 ≤ c ∧ c ≤ S 1 2 / 2 * 2) → pprove (S 0 1) (S 1) (S 2) (S 4) a b c 255 → nlex S a b c → P (up2 (up2 (up2 (up2 S 21 0 a) 21 1 b) 21 2 c) 21 3 (preason (pprove (S 0 1) (S 1) (S 2) (S 4) a b c) (S 0 1 - 0).toNat 0 (pall (S 0 1))))) (a b : Int) (f0 : (0 ≤ a ∧ a ≤ S 1 0 / 2 * 2)) (f1 : (0 ≤ b ∧ b ≤ S 1 1 / 2 * 2)) (R : jR E G none (jPv P)) : ∀ (mm : Nat) (c : Int), mm = (S 1 2 / 2 * 2 + 1 - c).toNat → ((0 ≤ c ∧ c ≤ S 1 2 / 2 * 2 + 1) ∧ nlex S a b c) → (nlex S a (b + 1) 0 → J E G 187 [(0, .ref (jad G 0)), (1, .int (iI a)), (2, .int (iI b))] [] S) → J E G 50 [(0, .ref (jad G 0)), (1, .int (iI (a))), (2, .int (iI (b))), (3, .int (iI (c)))] [] S := by
  intro mm
  induction mm using Nat.strongRecOn with | ind mm ih => ?_
  intro c hm hj K
  obtain ⟨hc, hj⟩ := hj
  have hn := hk.1
  have l0 := hk.2.1 0 (by omega) (by omega)
  have l1 := hk.2.1 1 (by omega) (by omega)
  have l2 := hk.2.1 2 (by omega) (by omega)
  refine J_aload_n C 0 dX6_prove_50 rfl ?_
  refine J_iconst C dX6_prove_51 ?_
  refine J_iload_n C 3 dX6_prove_52 rfl ?_
  refine J_callV (k := 0) (rest := []) C (m_isDual hG S (2) (c) hk (by omega) (by omega)) kc_X6_isDual kl_X6_189 (by rw [hG.2]; decide) (by rw [hG.1]; rfl) rfl dX6_prove_53 rfl rfl (by decide) (Nat.le_of_ble_eq_true rfl) (J_ki (fun v1 S1 h1 => ?_))
  obtain ⟨rfl, rfl⟩ := h1
  have q1 := hk.2.1 (2) (by omega) (by omega)
  refine J_if_eq_b C 187 dX6_prove_56 (by decide) (fun h2 => ?_) (fun h2 => ?_)
  · refine J_lv [0, 1, 2] rfl ?_
    exact K (hj.row (by omega))
  · have f2 : 0 ≤ c ∧ c ≤ S 1 2 / 2 * 2 := by omega
    have hh := has_in hk.2.1 f0 f1 f2
    have nin := need_in2 (m := 255) hk f0 f1 f2
    refine J_aload_n C 0 dX6_prove_59 rfl ?_
    refine J_iload_n C 1 dX6_prove_60 rfl ?_
    refine J_iload_n C 2 dX6_prove_61 rfl ?_
    refine J_iload_n C 3 dX6_prove_62 rfl ?_
    refine J_sipush C dX6_prove_63 (by decide) ?_
    refine J_callV (k := 0) (rest := []) C (m_needs hG S (a) (b) (c) (255) hk (by omega) (by omega) (by omega) (by omega)) kc_X6_needs kl_X6_200 (by rw [hG.2]; decide) (by rw [hG.1]; rfl) rfl dX6_prove_66 rfl rfl (by decide) (Nat.le_of_ble_eq_true rfl) (J_kl (fun v3 S3 h3 => ?_))
    obtain ⟨rfl, rfl⟩ := h3
    refine J_aload_n C 0 dX6_prove_69 rfl ?_
    refine J_iload_n C 1 dX6_prove_70 rfl ?_
    refine J_iload_n C 2 dX6_prove_71 rfl ?_
    refine J_iload_n C 3 dX6_prove_72 rfl ?_
    refine J_callV (k := 0) (rest := [.long (iL (pneed (S 0 1) (S 1) (S 2) (S 4) (a) (b) (c) (255)))]) C (m_has3 hG S (a) (b) (c) hk (by omega) (by omega) (by omega)) kc_X6_has_ kl_X6_195 (by rw [hG.2]; decide) (by rw [hG.1]; rfl) rfl dX6_prove_73 rfl rfl (by decide) (Nat.le_of_ble_eq_true rfl) (J_kl (fun v4 S4 h4 => ?_))
    obtain ⟨rfl, rfl⟩ := h4
    refine J_lcmpv C dX6_prove_76 (by omega) (by omega) ?_
    have lz5 := lcv_is (pneed (S 0 1) (S 1) (S 2) (S 4) (a) (b) (c) (255)) (phas3 (S 1) (a) (b) (c))
    refine J_if_le C 181 dX6_prove_77 (by decide) (by omega) (fun h6 => ?_) (fun h6 => ?_)
    · refine J_iinc (lv' := [(3, .int (iI (c + 1))), (0, .ref (jad G 0)), (1, .int (iI (a))), (2, .int (iI (b)))]) C 3 dX6_prove_181 rfl (by decide) rfl ?_
      refine J_goto C 50 dX6_prove_184 (by decide) ?_
      refine J_lv [1, 2, 3, 0] rfl ?_
      exact ih _ (by omega) (c + 1) rfl ⟨by omega, hj.next (by show ¬ phas3 _ _ _ _ < pneed _ _ _ _ _ _ _ _; omega)⟩ K
    · refine J_aload_n C 0 dX6_prove_80 rfl ?_
      refine g_X6_71 hG C dX6_prove_81 ?_
      refine J_iconst C dX6_prove_84 ?_
      refine J_iload_n C 1 dX6_prove_85 rfl ?_
      refine mast hG C 21 4 (by decide) dX6_prove_86 (by omega) (by omega) ?_
      refine J_aload_n C 0 dX6_prove_87 rfl ?_
      refine g_X6_71 hG C dX6_prove_88 ?_
      refine J_iconst C dX6_prove_91 ?_
      refine J_iload_n C 2 dX6_prove_92 rfl ?_
      refine mast hG C 21 4 (by decide) dX6_prove_93 (by omega) (by omega) ?_
      refine J_aload_n C 0 dX6_prove_94 rfl ?_
      refine g_X6_71 hG C dX6_prove_95 ?_
      refine J_iconst C dX6_prove_98 ?_
      refine J_iload_n C 3 dX6_prove_99 rfl ?_
      refine mast hG C 21 4 (by decide) dX6_prove_100 (by omega) (by omega) ?_
      have hpw := zpow_lt (n := S 0 1) (k := 9) hn.1 (by omega)
      refine J_iconst C dX6_prove_101 ?_
      refine J_aload_n C 0 dX6_prove_102 rfl ?_
      refine g_X6_81 hG C dX6_prove_103 ?_
      refine J_top (b := S 0 1) (rd_k (by decide) (rd_k (by decide) (rd_k (by decide) (rfl)))) ?_
      refine J_ishl C dX6_prove_106 (by omega) (by omega) ?_
      refine J_iconst C dX6_prove_107 ?_
      refine J_isub C dX6_prove_108 ?_
      refine J_istore (lv' := [(4, .int (iI (((1) * 2 ^ (S 0 1).toNat) - (1)))), (0, .ref (jad G 0)), (1, .int (iI (a))), (2, .int (iI (b))), (3, .int (iI (c)))]) C dX6_prove_109 (by decide) rfl ?_
      refine J_iconst C dX6_prove_111 ?_
      refine J_istore (lv' := [(5, .int (iI (0))), (4, .int (iI (((1) * 2 ^ (S 0 1).toNat) - (1)))), (0, .ref (jad G 0)), (1, .int (iI (a))), (2, .int (iI (b))), (3, .int (iI (c)))]) C dX6_prove_112 (by decide) rfl ?_
      refine J_lv [2, 3, 4, 5, 1, 0] rfl ?_
      refine lm_reason hG C (up2 (up2 (up2 S 21 (0) (a)) 21 (1) (b)) 21 (2) (c)) P a b c hk f0 f1 f2 (hP1 a b c f0 f1 f2 (by show phas3 _ _ _ _ < pneed _ _ _ _ _ _ _ _; omega) hj) R _ 0 _ rfl ⟨⟨Int.le_refl _, hk.1.1⟩, pall_in hk.1, rfl⟩
theorem lm_pb {E : jEnv} {G : jG} (hG : mG G) (C : jX E G cX6_prove 6 RX6 3 81) (S : jMem) (P : jMem → Prop) (hk : mOK S) (hP0 : (∀ a b c, (0 ≤ a ∧ a ≤ S 1 0 / 2 * 2) → (0 ≤ b ∧ b ≤ S 1 1 / 2 * 2) → (0 ≤ c ∧ c ≤ S 1 2 / 2 * 2) → ¬ pprove (S 0 1) (S 1) (S 2) (S 4) a b c 255) → P S) (hP1 : ∀ a b c, (0 ≤ a ∧ a ≤ S 1 0 / 2 * 2) → (0 ≤ b ∧ b ≤ S 1 1 / 2 * 2) → (0 ≤ c ∧ c ≤ S 1 2 / 2 * 2) → pprove (S 0 1) (S 1) (S 2) (S 4) a b c 255 → nlex S a b c → P (up2 (up2 (up2 (up2 S 21 0 a) 21 1 b) 21 2 c) 21 3 (preason (pprove (S 0 1) (S 1) (S 2) (S 4) a b c) (S 0 1 - 0).toNat 0 (pall (S 0 1))))) (a : Int) (f0 : (0 ≤ a ∧ a ≤ S 1 0 / 2 * 2)) (R : jR E G none (jPv P)) : ∀ (mm : Nat) (b : Int), mm = (S 1 1 / 2 * 2 + 1 - b).toNat → ((0 ≤ b ∧ b ≤ S 1 1 / 2 * 2 + 1) ∧ nlex S a b 0) → (nlex S (a + 1) 0 0 → J E G 193 [(0, .ref (jad G 0)), (1, .int (iI a))] [] S) → J E G 39 [(0, .ref (jad G 0)), (1, .int (iI (a))), (2, .int (iI (b)))] [] S := by
  intro mm
  induction mm using Nat.strongRecOn with | ind mm ih => ?_
  intro b hm hj K
  obtain ⟨hb, hj⟩ := hj
  have hn := hk.1
  have l0 := hk.2.1 0 (by omega) (by omega)
  have l1 := hk.2.1 1 (by omega) (by omega)
  have l2 := hk.2.1 2 (by omega) (by omega)
  refine J_aload_n C 0 dX6_prove_39 rfl ?_
  refine J_iconst C dX6_prove_40 ?_
  refine J_iload_n C 2 dX6_prove_41 rfl ?_
  refine J_callV (k := 0) (rest := []) C (m_isDual hG S (1) (b) hk (by omega) (by omega)) kc_X6_isDual kl_X6_189 (by rw [hG.2]; decide) (by rw [hG.1]; rfl) rfl dX6_prove_42 rfl rfl (by decide) (Nat.le_of_ble_eq_true rfl) (J_ki (fun v1 S1 h1 => ?_))
  obtain ⟨rfl, rfl⟩ := h1
  have q2 := hk.2.1 (1) (by omega) (by omega)
  refine J_if_eq_b C 193 dX6_prove_45 (by decide) (fun h2 => ?_) (fun h2 => ?_)
  · refine J_lv [0, 1] rfl ?_
    exact K (hj.col (by omega))
  · refine J_iconst C dX6_prove_48 ?_
    refine J_istore_n (lv' := [(3, .int (iI (0))), (0, .ref (jad G 0)), (1, .int (iI (a))), (2, .int (iI (b)))]) C dX6_prove_49 (by decide) rfl ?_
    refine J_lv [1, 2, 3, 0] rfl ?_
    refine lm_pc hG C S P hk hP0 hP1 a b f0 (by omega) R _ 0 rfl ⟨by omega, hj⟩ (fun hj2 => ?_)
    refine J_iinc (lv' := [(2, .int (iI (b + 1))), (0, .ref (jad G 0)), (1, .int (iI a))]) C 2 dX6_prove_187 rfl (by decide) rfl ?_
    refine J_goto C 39 dX6_prove_190 (by decide) ?_
    refine J_lv [1, 2, 0] rfl ?_
    exact ih _ (by omega) (b + 1) rfl ⟨by omega, hj2⟩ K
theorem lm_pa {E : jEnv} {G : jG} (hG : mG G) (C : jX E G cX6_prove 6 RX6 3 81) (S : jMem) (P : jMem → Prop) (hk : mOK S) (hP0 : (∀ a b c, (0 ≤ a ∧ a ≤ S 1 0 / 2 * 2) → (0 ≤ b ∧ b ≤ S 1 1 / 2 * 2) → (0 ≤ c ∧ c ≤ S 1 2 / 2 * 2) → ¬ pprove (S 0 1) (S 1) (S 2) (S 4) a b c 255) → P S) (hP1 : ∀ a b c, (0 ≤ a ∧ a ≤ S 1 0 / 2 * 2) → (0 ≤ b ∧ b ≤ S 1 1 / 2 * 2) → (0 ≤ c ∧ c ≤ S 1 2 / 2 * 2) → pprove (S 0 1) (S 1) (S 2) (S 4) a b c 255 → nlex S a b c → P (up2 (up2 (up2 (up2 S 21 0 a) 21 1 b) 21 2 c) 21 3 (preason (pprove (S 0 1) (S 1) (S 2) (S 4) a b c) (S 0 1 - 0).toNat 0 (pall (S 0 1))))) (R : jR E G none (jPv P)) : ∀ (mm : Nat) (a : Int), mm = (S 1 0 / 2 * 2 + 1 - a).toNat → ((0 ≤ a ∧ a ≤ S 1 0 / 2 * 2 + 1) ∧ nlex S a 0 0) → J E G 28 [(0, .ref (jad G 0)), (1, .int (iI (a)))] [] S := by
  intro mm
  induction mm using Nat.strongRecOn with | ind mm ih => ?_
  intro a hm hj
  obtain ⟨ha, hj⟩ := hj
  have hn := hk.1
  have l0 := hk.2.1 0 (by omega) (by omega)
  have l1 := hk.2.1 1 (by omega) (by omega)
  have l2 := hk.2.1 2 (by omega) (by omega)
  refine J_aload_n C 0 dX6_prove_28 rfl ?_
  refine J_iconst C dX6_prove_29 ?_
  refine J_iload_n C 1 dX6_prove_30 rfl ?_
  refine J_callV (k := 0) (rest := []) C (m_isDual hG S (0) (a) hk (by omega) (by omega)) kc_X6_isDual kl_X6_189 (by rw [hG.2]; decide) (by rw [hG.1]; rfl) rfl dX6_prove_31 rfl rfl (by decide) (Nat.le_of_ble_eq_true rfl) (J_ki (fun v1 S1 h1 => ?_))
  obtain ⟨rfl, rfl⟩ := h1
  have q3 := hk.2.1 (0) (by omega) (by omega)
  refine J_if_eq_b C 199 dX6_prove_34 (by decide) (fun h2 => ?_) (fun h2 => ?_)
  · exact J_vret R C dX6_prove_199 (jPv.mk (hP0 (fun a' b' c' fa fb fc => hj a' b' c' fa fb fc (by unfold lex3; omega))))
  · refine J_iconst C dX6_prove_37 ?_
    refine J_istore_n (lv' := [(2, .int (iI (0))), (0, .ref (jad G 0)), (1, .int (iI (a)))]) C dX6_prove_38 (by decide) rfl ?_
    refine J_lv [1, 2, 0] rfl ?_
    refine lm_pb hG C S P hk hP0 hP1 a (by omega) R _ 0 rfl ⟨by omega, hj⟩ (fun hj2 => ?_)
    refine J_iinc (lv' := [(1, .int (iI (a + 1))), (0, .ref (jad G 0))]) C 1 dX6_prove_193 rfl (by decide) rfl ?_
    refine J_goto C 28 dX6_prove_196 (by decide) ?_
    refine J_lv [1, 0] rfl ?_
    exact ih _ (by omega) (a + 1) rfl ⟨by omega, hj2⟩
theorem m_prove {G : jG} (hG : mG G) (S0 : jMem) (hk : mOK S0) : jM G yX6_prove cX6_prove 6 none 3 81 [.ref (jad G 0)] S0 (jPv (fun S' => keeps [0, 21] S0 S' ∧ (∀ j, S' 0 j = if j = 25 then 1 else S0 0 j) ∧ isProof (S0 0 1) (S0 1) (S0 2) (S0 4) (S' 21))) := by
  refine jM.of (by decide) (Nat.le_of_ble_eq_true rfl) (fun E C R => ?_)
  show J E G 0 [(0, .ref (jad G 0))] [] _
  have hn := hk.1
  refine J_aload_n C 0 dX6_prove_0 rfl ?_
  refine J_iconst C dX6_prove_1 ?_
  refine p_X6_114 hG C (by first | exact Or.inl rfl | exact Or.inr rfl | omega) dX6_prove_2 ?_
  refine J_iconst C dX6_prove_5 ?_
  refine J_istore_n (lv' := [(1, .int (iI (0))), (0, .ref (jad G 0))]) C dX6_prove_6 (by decide) rfl ?_
  refine J_iload_n C 0 dX6_prove_7 rfl ?_
  refine J_iconst C dX6_prove_8 ?_
  refine J_icmp_ge C 26 dX6_prove_9 (by decide) (by omega) (by omega) (fun h => absurd h (by omega)) (fun _ => ?_)
  refine J_aload_n C 1 dX6_prove_12 rfl ?_
  refine g_X6_71 hG C dX6_prove_13 ?_
  refine J_iload_n C 0 dX6_prove_16 rfl ?_
  refine J_bipush C dX6_prove_17 (by decide) ?_
  refine mast hG C 21 4 (by decide) dX6_prove_19 (by omega) (by omega) ?_
  refine J_iinc (lv' := [(1, .int (iI (1))), (0, .ref (jad G 0))]) C 0 dX6_prove_20 rfl (by decide) rfl ?_
  refine J_goto C 7 dX6_prove_23 (by decide) ?_
  refine J_iload_n C 0 dX6_prove_7 rfl ?_
  refine J_iconst C dX6_prove_8 ?_
  refine J_icmp_ge C 26 dX6_prove_9 (by decide) (by omega) (by omega) (fun h => absurd h (by omega)) (fun _ => ?_)
  refine J_aload_n C 1 dX6_prove_12 rfl ?_
  refine g_X6_71 hG C dX6_prove_13 ?_
  refine J_iload_n C 0 dX6_prove_16 rfl ?_
  refine J_bipush C dX6_prove_17 (by decide) ?_
  refine mast hG C 21 4 (by decide) dX6_prove_19 (by omega) (by omega) ?_
  refine J_iinc (lv' := [(1, .int (iI (2))), (0, .ref (jad G 0))]) C 0 dX6_prove_20 rfl (by decide) rfl ?_
  refine J_goto C 7 dX6_prove_23 (by decide) ?_
  refine J_iload_n C 0 dX6_prove_7 rfl ?_
  refine J_iconst C dX6_prove_8 ?_
  refine J_icmp_ge C 26 dX6_prove_9 (by decide) (by omega) (by omega) (fun h => absurd h (by omega)) (fun _ => ?_)
  refine J_aload_n C 1 dX6_prove_12 rfl ?_
  refine g_X6_71 hG C dX6_prove_13 ?_
  refine J_iload_n C 0 dX6_prove_16 rfl ?_
  refine J_bipush C dX6_prove_17 (by decide) ?_
  refine mast hG C 21 4 (by decide) dX6_prove_19 (by omega) (by omega) ?_
  refine J_iinc (lv' := [(1, .int (iI (3))), (0, .ref (jad G 0))]) C 0 dX6_prove_20 rfl (by decide) rfl ?_
  refine J_goto C 7 dX6_prove_23 (by decide) ?_
  refine J_iload_n C 0 dX6_prove_7 rfl ?_
  refine J_iconst C dX6_prove_8 ?_
  refine J_icmp_ge C 26 dX6_prove_9 (by decide) (by omega) (by omega) (fun h => absurd h (by omega)) (fun _ => ?_)
  refine J_aload_n C 1 dX6_prove_12 rfl ?_
  refine g_X6_71 hG C dX6_prove_13 ?_
  refine J_iload_n C 0 dX6_prove_16 rfl ?_
  refine J_bipush C dX6_prove_17 (by decide) ?_
  refine mast hG C 21 4 (by decide) dX6_prove_19 (by omega) (by omega) ?_
  refine J_iinc (lv' := [(1, .int (iI (4))), (0, .ref (jad G 0))]) C 0 dX6_prove_20 rfl (by decide) rfl ?_
  refine J_goto C 7 dX6_prove_23 (by decide) ?_
  refine J_iload_n C 0 dX6_prove_7 rfl ?_
  refine J_iconst C dX6_prove_8 ?_
  refine J_icmp_ge C 26 dX6_prove_9 (by decide) (by omega) (by omega) (fun _ => ?_) (fun h => absurd h (by omega))
  refine J_iconst C dX6_prove_26 ?_
  refine J_istore_n (lv' := [(1, .int (iI (0))), (0, .ref (jad G 0))]) C dX6_prove_27 (by decide) rfl ?_
  refine J_lv [1, 0] rfl ?_
  have kp : keeps [0, 21] S0 (up2 (up2 (up2 (up2 (up2 S0 0 (25) (1)) 21 (0) (-9)) 21 (1) (-9)) 21 (2) (-9)) 21 (3) (-9)) := ((((keeps.rf.up (by decide) _ _).up (by decide) _ _).up (by decide) _ _).up (by decide) _ _).up (by decide) _ _
  have k0 : ∀ j, (up2 (up2 (up2 (up2 (up2 S0 0 (25) (1)) 21 (0) (-9)) 21 (1) (-9)) 21 (2) (-9)) 21 (3) (-9)) 0 j = if j = 25 then 1 else S0 0 j := fun j => by rw [up2_k _ _ _ (by decide), up2_k _ _ _ (by decide), up2_k _ _ _ (by decide), up2_k _ _ _ (by decide)]; unfold up2; by_cases hj : j = 25 <;> simp [hj]
  have tq : ∀ a b c, pprove (S0 0 1) (S0 1) (S0 2) (S0 4) a b c 255 ↔ pprove (S0 0 1) (S0 1) (S0 2) (S0 4) a b c (pall (S0 0 1)) := fun a b c => by show phas3 _ _ _ _ < pneed _ _ _ _ _ _ _ _ ↔ phas3 _ _ _ _ < pneed _ _ _ _ _ _ _ _; rw [pneed_255 hn]
  have hL := hk.2.1 0 (by omega) (by omega)
  refine lm_pa hG C (up2 (up2 (up2 (up2 (up2 S0 0 (25) (1)) 21 (0) (-9)) 21 (1) (-9)) 21 (2) (-9)) 21 (3) (-9)) _ hk (fun h => ⟨kp, k0, Or.inl ⟨fun a b c fa fb fc ht => h a b c fa fb fc ((tq a b c).mpr ht), ?_, ?_, ?_, ?_⟩⟩) (fun a b c fa fb fc ht hl => ⟨(((kp.up (by decide) _ _).up (by decide) _ _).up (by decide) _ _).up (by decide) _ _, fun j => ?_, Or.inr ⟨a, b, c, fa, fb, fc, (tq a b c).mp ht, fun a2 b2 c2 ga gb gc hx hy => hl a2 b2 c2 ga gb gc hx ((tq a2 b2 c2).mpr hy), ?_, ?_, ?_, ?_⟩⟩) R _ 0 rfl ⟨⟨Int.le_refl _, by show 0 ≤ S0 1 0 / 2 * 2 + 1; omega⟩, fun a2 b2 c2 ga gb gc hx => by unfold lex3 at hx; omega⟩
  · exact rd_a (by omega) (rd_a (by omega) (rd_a (by omega) (rd_e rfl)))
  · exact rd_a (by omega) (rd_a (by omega) (rd_e rfl))
  · exact rd_a (by omega) (rd_e rfl)
  · exact rd_e rfl
  · rw [up2_k _ _ _ (by decide), up2_k _ _ _ (by decide), up2_k _ _ _ (by decide), up2_k _ _ _ (by decide)]; exact k0 j
  · exact rd_a (by omega) (rd_a (by omega) (rd_a (by omega) (rd_e rfl)))
  · exact rd_a (by omega) (rd_a (by omega) (rd_e rfl))
  · exact rd_a (by omega) (rd_e rfl)
  · exact rd_e rfl
theorem m_proof {G : jG} (hG : mG G) (S0 : jMem) (w : Int) (hk : mOK S0) (hw : inR w) (hp : S0 0 25 = 0 ∨ (S0 0 25 = 1 ∧ isProof (S0 0 1) (S0 1) (S0 2) (S0 4) (S0 21))) : jM G yX6_proof cX6_proof 2 (some .int) 4 106 [.ref (jad G 0), .int (iI (w))] S0 (jPi (fun v S' => if 0 ≤ w ∧ w ≤ 3 then keeps [0, 21] S0 S' ∧ (∀ j, S' 0 j = if j = 25 then 1 else S0 0 j) ∧ isProof (S0 0 1) (S0 1) (S0 2) (S0 4) (S' 21) ∧ v = S' 21 w else v = -1 ∧ S' = S0)) := by
  refine jM.of (by decide) (Nat.le_of_ble_eq_true rfl) (fun E C R => ?_)
  show J E G 0 [(0, .ref (jad G 0)), (1, .int (iI (w)))] [] _
  refine J_iload_n C 1 dX6_proof_0 rfl ?_
  refine J_if_lt C 9 dX6_proof_1 (by decide) (by omega) (fun h1 => ?_) (fun h1 => ?_)
  · refine J_iconst C dX6_proof_9 ?_
    exact J_iret R C dX6_proof_10 (jPi.mk (by rw [if_neg (by omega)]; exact ⟨rfl, rfl⟩))
  · refine J_iload_n C 1 dX6_proof_4 rfl ?_
    refine J_iconst C dX6_proof_5 ?_
    refine J_icmp_le C 11 dX6_proof_6 (by decide) (by omega) (by omega) (fun h2 => ?_) (fun h2 => ?_)
    · refine J_aload_n C 0 dX6_proof_11 rfl ?_
      refine g_X6_114 hG C dX6_proof_12 ?_
      refine J_if_ne C 22 dX6_proof_15 (by decide) (by omega) (fun h3 => ?_) (fun h3 => ?_)
      · refine J_aload_n C 0 dX6_proof_22 rfl ?_
        refine g_X6_71 hG C dX6_proof_23 ?_
        refine J_iload_n C 1 dX6_proof_26 rfl ?_
        refine mald hG C 21 4 (by decide) dX6_proof_27 (by omega) (by omega) ?_
        rcases hp with hp | hp
        · omega
        · refine J_iret R C dX6_proof_28 (jPi.mk ?_)
          rw [if_pos (by omega)]
          refine ⟨keeps.rf, fun j => ?_, hp.2, rfl⟩
          by_cases hj : j = 25
          · subst hj; rw [if_pos rfl]; exact hp.1
          · rw [if_neg hj]
      · refine J_aload_n C 0 dX6_proof_18 rfl ?_
        refine J_callV (k := 0) (rest := []) C (m_prove hG S0 hk) kc_X6_prove kl_X6_204 (by rw [hG.2]; decide) (by rw [hG.1]; rfl) rfl dX6_proof_19 rfl rfl (by decide) (Nat.le_of_ble_eq_true rfl) (J_kv (fun S4 h4 => ?_))
        obtain ⟨k1, k2, k3⟩ := h4
        refine J_aload_n C 0 dX6_proof_22 rfl ?_
        refine g_X6_71 hG C dX6_proof_23 ?_
        refine J_iload_n C 1 dX6_proof_26 rfl ?_
        refine mald hG C 21 4 (by decide) dX6_proof_27 (by omega) (by omega) ?_
        exact J_iret R C dX6_proof_28 (jPi.mk (by rw [if_pos (by omega)]; exact ⟨k1, k2, k3, rfl⟩))
    · refine J_iconst C dX6_proof_9 ?_
      exact J_iret R C dX6_proof_10 (jPi.mk (by rw [if_neg (by omega)]; exact ⟨rfl, rfl⟩))
