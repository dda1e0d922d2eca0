theorem lm_kept {E : jEnv} {G : jG} (hG : mG G) (C : jX E G cX6_anew 4 RX6 3 73) (S0 : jMem) (b a : Int) (hk : mOK S0) (hb : 0 ≤ b ∧ b < 8) (ha : 0 ≤ a ∧ a < 3) : ∀ (mm : Nat) (t : Int) (S : jMem), mm = (6 - t).toNat → ((0 ≤ t ∧ t ≤ 6) ∧ anT S0 b a t S) → (∀ S', anI S0 b (a + 1) S' → J E G 203 [(0, .ref (jad G 0)), (1, .int (iI b)), (2, .int (iI a))] [] S') → J E G 169 [(0, .ref (jad G 0)), (1, .int (iI (b))), (2, .int (iI (a))), (3, .int (iI (t)))] [] S := by
  intro mm
  induction mm using Nat.strongRecOn with | ind mm ih => ?_
  intro t S hm hi K
  obtain ⟨ht, hj⟩ := hi
  refine J_iload_n C 3 dX6_anew_169 rfl ?_
  refine J_bipush C dX6_anew_170 (by decide) ?_
  refine J_icmp_ge C 203 dX6_anew_172 (by decide) (by omega) (by omega) (fun h1 => ?_) (fun h1 => ?_)
  · refine J_lv [0, 1, 2] rfl ?_
    exact K S (hj.done (by omega) (by omega) (by omega))
  · refine J_aload_n C 0 dX6_anew_175 rfl ?_
    refine g_X6_44 hG C dX6_anew_176 ?_
    refine J_bipush C dX6_anew_179 (by decide) ?_
    refine J_iload_n C 1 dX6_anew_181 rfl ?_
    refine J_imul C dX6_anew_182 ?_
    refine J_iconst C dX6_anew_183 ?_
    refine J_iload_n C 3 dX6_anew_184 rfl ?_
    refine J_imul C dX6_anew_185 ?_
    refine J_iadd C dX6_anew_186 ?_
    refine J_iload_n C 2 dX6_anew_187 rfl ?_
    refine J_iadd C dX6_anew_188 ?_
    refine J_aload_n C 0 dX6_anew_189 rfl ?_
    refine J_iload_n C 1 dX6_anew_190 rfl ?_
    refine J_iload_n C 3 dX6_anew_191 rfl ?_
    refine J_iload_n C 2 dX6_anew_192 rfl ?_
    refine J_callV (k := 0) (rest := [.int (iI ((((18) * (b)) + ((3) * (t))) + (a))), .ref (jad G 12)]) C (m_counted hG S (b) (t) (a) (hj.1.mok (by decide) (by rw [hj.1 0 (by decide)]) hk) (by omega) (by omega) (by omega) (hj.z1 (by omega) (by omega))) kc_X6_counted kl_X6_103 (by rw [hG.2]; decide) (by rw [hG.1]; rfl) rfl dX6_anew_193 rfl rfl (by decide) (Nat.le_of_ble_eq_true rfl) (J_ki (fun v2 S2 h2 => ?_))
    obtain ⟨rfl, rfl⟩ := h2
    refine J_top (b := pmany (S0 0 1) (S0 1) (S0 2) (S0 4) b t a) (hj.cnt hk (by omega) (by omega)) ?_
    refine mast hG C 12 144 (by decide) dX6_anew_196 (by omega) (by omega) ?_
    refine J_iinc (lv' := [(3, .int (iI (t + 1))), (0, .ref (jad G 0)), (1, .int (iI (b))), (2, .int (iI (a)))]) C 3 dX6_anew_197 rfl (by decide) rfl ?_
    refine J_goto C 169 dX6_anew_200 (by decide) ?_
    refine J_lv [1, 2, 3, 0] rfl ?_
    exact ih _ (by omega) (t + 1) _ rfl ⟨by omega, hj.put (by omega) (by omega) (by omega) rfl⟩ K
theorem lm_axes {E : jEnv} {G : jG} (hG : mG G) (C : jX E G cX6_anew 4 RX6 3 73) (S0 : jMem) (b : Int) (hk : mOK S0) (hb : 0 ≤ b ∧ b < 8) : ∀ (mm : Nat) (a : Int) (S : jMem), mm = (3 - a).toNat → ((0 ≤ a ∧ a ≤ 3) ∧ anI S0 b a S) → (∀ S', anW S0 b 0 S' → J E G 209 [(0, .ref (jad G 0)), (1, .int (iI b))] [] S') → J E G 156 [(0, .ref (jad G 0)), (1, .int (iI (b))), (2, .int (iI (a)))] [] S := by
  intro mm
  induction mm using Nat.strongRecOn with | ind mm ih => ?_
  intro a S hm hi K
  obtain ⟨ha, hj⟩ := hi
  refine J_iload_n C 2 dX6_anew_156 rfl ?_
  refine J_iconst C dX6_anew_157 ?_
  refine J_icmp_ge C 209 dX6_anew_158 (by decide) (by omega) (by omega) (fun h1 => ?_) (fun h1 => ?_)
  · have ea : a = 3 := by omega
    rw [ea] at hj
    refine J_lv [0, 1] rfl ?_
    exact K S hj.w
  · refine J_aload_n C 0 dX6_anew_161 rfl ?_
    refine J_iload_n C 1 dX6_anew_162 rfl ?_
    refine J_iload_n C 2 dX6_anew_163 rfl ?_
    refine J_callV (k := 0) (rest := []) C (m_sum hG S (b) (a) (hj.1.mok (by decide) (by rw [hj.1 0 (by decide)]) hk) (by omega) (by omega)) kc_X6_sum kl_X6_99 (by rw [hG.2]; decide) (by rw [hG.1]; rfl) rfl dX6_anew_164 rfl rfl (by decide) (Nat.le_of_ble_eq_true rfl) (J_kv (fun S2 h2 => ?_))
    have ha2 : 0 ≤ a ∧ a < 3 := by omega
    have hj2 := hj.sum (by omega) ha2 h2
    refine J_iconst C dX6_anew_167 ?_
    refine J_istore_n (lv' := [(3, .int (iI (0))), (0, .ref (jad G 0)), (1, .int (iI (b))), (2, .int (iI (a)))]) C dX6_anew_168 (by decide) rfl ?_
    refine J_lv [1, 2, 3, 0] rfl ?_
    refine lm_kept hG C S0 b a hk hb ha2 _ 0 _ rfl ⟨by omega, hj2⟩ (fun S3 hj3 => ?_)
    refine J_iinc (lv' := [(2, .int (iI (a + 1))), (0, .ref (jad G 0)), (1, .int (iI b))]) C 2 dX6_anew_203 rfl (by decide) rfl ?_
    refine J_goto C 156 dX6_anew_206 (by decide) ?_
    refine J_lv [1, 2, 0] rfl ?_
    exact ih _ (by omega) (a + 1) S3 rfl ⟨by omega, hj3⟩ K
theorem lm_keptw {E : jEnv} {G : jG} (hG : mG G) (C : jX E G cX6_anew 4 RX6 3 73) (S0 : jMem) (b : Int) (hk : mOK S0) (hb : 0 ≤ b ∧ b < 8) : ∀ (mm : Nat) (t : Int) (S : jMem), mm = (6 - t).toNat → ((0 ≤ t ∧ t ≤ 6) ∧ anW S0 b t S) → (∀ S', anI S0 (b + 1) 0 S' → J E G 270 [(0, .ref (jad G 0)), (1, .int (iI b))] [] S') → J E G 211 [(0, .ref (jad G 0)), (1, .int (iI (b))), (2, .int (iI (t)))] [] S := by
  intro mm
  induction mm using Nat.strongRecOn with | ind mm ih => ?_
  intro t S hm hi K
  obtain ⟨ht, hj⟩ := hi
  refine J_iload_n C 2 dX6_anew_211 rfl ?_
  refine J_bipush C dX6_anew_212 (by decide) ?_
  refine J_icmp_ge C 270 dX6_anew_214 (by decide) (by omega) (by omega) (fun h1 => ?_) (fun h1 => ?_)
  · refine J_lv [0, 1] rfl ?_
    exact K S (hj.done (by omega))
  · refine J_aload_n C 0 dX6_anew_217 rfl ?_
    refine g_X6_47 hG C dX6_anew_218 ?_
    refine J_bipush C dX6_anew_221 (by decide) ?_
    refine J_iload_n C 1 dX6_anew_223 rfl ?_
    refine J_imul C dX6_anew_224 ?_
    refine J_iload_n C 2 dX6_anew_225 rfl ?_
    refine J_iadd C dX6_anew_226 ?_
    refine J_aload_n C 0 dX6_anew_227 rfl ?_
    refine J_iload_n C 1 dX6_anew_228 rfl ?_
    refine J_iload_n C 2 dX6_anew_229 rfl ?_
    refine J_callV (k := 0) (rest := [.int (iI (((6) * (b)) + (t))), .ref (jad G 13)]) C (m_isFirst hG S (b) (t) (hj.1.mok (by decide) (by rw [hj.1 0 (by decide)]) hk) (by omega) (by omega)) kc_X6_isFirst kl_X6_107 (by rw [hG.2]; decide) (by rw [hG.1]; rfl) rfl dX6_anew_230 rfl rfl (by decide) (Nat.le_of_ble_eq_true rfl) (J_ki (fun v2 S2 h2 => ?_))
    obtain ⟨rfl, rfl⟩ := h2
    refine J_top (b := bb (pfirst (S0 2) (S0 4) b t)) (by rw [hj.1 2 (by decide), hj.1 4 (by decide)]) ?_
    refine J_if_eq_b C 262 dX6_anew_233 (by decide) (fun h3 => ?_) (fun h3 => ?_)
    · refine J_iconst C dX6_anew_262 ?_
      refine mast hG C 13 48 (by decide) dX6_anew_263 (by omega) (by omega) ?_
      refine J_iinc (lv' := [(2, .int (iI (t + 1))), (0, .ref (jad G 0)), (1, .int (iI (b)))]) C 2 dX6_anew_264 rfl (by decide) rfl ?_
      refine J_goto C 211 dX6_anew_267 (by decide) ?_
      refine J_lv [1, 2, 0] rfl ?_
      refine ih _ (by omega) (t + 1) _ rfl ⟨by omega, hj.put (by omega) (by omega) ?_⟩ K
      unfold pways
      first | rw [bb_mul_t (by assumption)] | rw [bb_mul_f (by assumption)]
    · refine J_aload_n C 0 dX6_anew_236 rfl ?_
      refine J_iload_n C 1 dX6_anew_237 rfl ?_
      refine J_iload_n C 2 dX6_anew_238 rfl ?_
      refine J_iconst C dX6_anew_239 ?_
      refine J_callV (k := 0) (rest := [.int (iI (((6) * (b)) + (t))), .ref (jad G 13)]) C (m_many hG S (b) (t) (0) (by omega) (by omega) (by omega)) kc_X6_many kl_X6_111 (by rw [hG.2]; decide) (by rw [hG.1]; rfl) rfl dX6_anew_240 rfl rfl (by decide) (Nat.le_of_ble_eq_true rfl) (J_ki (fun v4 S4 h4 => ?_))
      obtain ⟨rfl, rfl⟩ := h4
      refine J_top (b := pmany (S0 0 1) (S0 1) (S0 2) (S0 4) (b) (t) (0)) (hj.many (by omega) (by omega) (by omega)) ?_
      refine J_aload_n C 0 dX6_anew_243 rfl ?_
      refine J_iload_n C 1 dX6_anew_244 rfl ?_
      refine J_iload_n C 2 dX6_anew_245 rfl ?_
      refine J_iconst C dX6_anew_246 ?_
      refine J_callV (k := 0) (rest := [.int (iI (pmany (S0 0 1) (S0 1) (S0 2) (S0 4) (b) (t) (0))), .int (iI (((6) * (b)) + (t))), .ref (jad G 13)]) C (m_many hG S (b) (t) (1) (by omega) (by omega) (by omega)) kc_X6_many kl_X6_111 (by rw [hG.2]; decide) (by rw [hG.1]; rfl) rfl dX6_anew_247 rfl rfl (by decide) (Nat.le_of_ble_eq_true rfl) (J_ki (fun v5 S5 h5 => ?_))
      obtain ⟨rfl, rfl⟩ := h5
      refine J_top (b := pmany (S0 0 1) (S0 1) (S0 2) (S0 4) (b) (t) (1)) (hj.many (by omega) (by omega) (by omega)) ?_
      refine J_imul C dX6_anew_250 ?_
      refine J_aload_n C 0 dX6_anew_251 rfl ?_
      refine J_iload_n C 1 dX6_anew_252 rfl ?_
      refine J_iload_n C 2 dX6_anew_253 rfl ?_
      refine J_iconst C dX6_anew_254 ?_
      refine J_callV (k := 0) (rest := [.int (iI ((pmany (S0 0 1) (S0 1) (S0 2) (S0 4) (b) (t) (0)) * (pmany (S0 0 1) (S0 1) (S0 2) (S0 4) (b) (t) (1)))), .int (iI (((6) * (b)) + (t))), .ref (jad G 13)]) C (m_many hG S (b) (t) (2) (by omega) (by omega) (by omega)) kc_X6_many kl_X6_111 (by rw [hG.2]; decide) (by rw [hG.1]; rfl) rfl dX6_anew_255 rfl rfl (by decide) (Nat.le_of_ble_eq_true rfl) (J_ki (fun v6 S6 h6 => ?_))
      obtain ⟨rfl, rfl⟩ := h6
      refine J_top (b := pmany (S0 0 1) (S0 1) (S0 2) (S0 4) (b) (t) (2)) (hj.many (by omega) (by omega) (by omega)) ?_
      refine J_imul C dX6_anew_258 ?_
      refine J_goto C 263 dX6_anew_259 (by decide) ?_
      refine mast hG C 13 48 (by decide) dX6_anew_263 (by omega) (by omega) ?_
      refine J_iinc (lv' := [(2, .int (iI (t + 1))), (0, .ref (jad G 0)), (1, .int (iI (b)))]) C 2 dX6_anew_264 rfl (by decide) rfl ?_
      refine J_goto C 211 dX6_anew_267 (by decide) ?_
      refine J_lv [1, 2, 0] rfl ?_
      refine ih _ (by omega) (t + 1) _ rfl ⟨by omega, hj.put (by omega) (by omega) ?_⟩ K
      unfold pways
      first | rw [bb_mul_t (by assumption)] | rw [bb_mul_f (by assumption)]
theorem lm_anb {E : jEnv} {G : jG} (hG : mG G) (C : jX E G cX6_anew 4 RX6 3 73) (S0 : jMem) (Q : jMem → Prop) (hk : mOK S0) (hQ : ∀ S, anI S0 (S0 0 1) 0 S → Q (up2 S 0 25 0)) (R : jR E G none (jPv (fun S' => Q S'))) : ∀ (mm : Nat) (b : Int) (S : jMem), mm = (S0 0 1 - b).toNat → ((0 ≤ b ∧ b ≤ S0 0 1) ∧ anI S0 b 0 S) → J E G 146 [(0, .ref (jad G 0)), (1, .int (iI (b)))] [] S := by
  intro mm
  induction mm using Nat.strongRecOn with | ind mm ih => ?_
  intro b S hm hi
  obtain ⟨hb, hj⟩ := hi
  have hn := hk.1
  have e1 : S 0 1 = S0 0 1 := by rw [hj.1 0 (by decide)]
  refine J_iload_n C 1 dX6_anew_146 rfl ?_
  refine J_aload_n C 0 dX6_anew_147 rfl ?_
  refine g_X6_81 hG C dX6_anew_148 ?_
  refine J_icmp_ge C 276 dX6_anew_151 (by decide) (by omega) (by omega) (fun h1 => ?_) (fun h1 => ?_)
  · refine J_aload_n C 0 dX6_anew_276 rfl ?_
    refine J_iconst C dX6_anew_277 ?_
    refine p_X6_114 hG C (by first | exact Or.inl rfl | exact Or.inr rfl | omega) dX6_anew_278 ?_
    have ek : b = S0 0 1 := by omega
    rw [ek] at hj
    exact J_vret R C dX6_anew_281 (jPv.mk (hQ S hj))
  · refine J_iconst C dX6_anew_154 ?_
    refine J_istore_n (lv' := [(2, .int (iI (0))), (0, .ref (jad G 0)), (1, .int (iI (b)))]) C dX6_anew_155 (by decide) rfl ?_
    refine J_lv [1, 2, 0] rfl ?_
    refine lm_axes hG C S0 b hk (by omega) _ 0 S rfl ⟨by omega, hj⟩ (fun S2 hj2 => ?_)
    refine J_iconst C dX6_anew_209 ?_
    refine J_istore_n (lv' := [(2, .int (iI (0))), (0, .ref (jad G 0)), (1, .int (iI (b)))]) C dX6_anew_210 (by decide) rfl ?_
    refine J_lv [1, 2, 0] rfl ?_
    refine lm_keptw hG C S0 b hk (by omega) _ 0 S2 rfl ⟨by omega, hj2⟩ (fun S3 hj3 => ?_)
    refine J_iinc (lv' := [(1, .int (iI (b + 1))), (0, .ref (jad G 0))]) C 1 dX6_anew_270 rfl (by decide) rfl ?_
    refine J_goto C 146 dX6_anew_273 (by decide) ?_
    refine J_lv [1, 0] rfl ?_
    exact ih _ (by omega) (b + 1) S3 rfl ⟨by omega, hj3⟩
theorem lm_sw {E : jEnv} {G : jG} (hG : mG G) (C : jX E G cX6_anew 4 RX6 3 73) (S0 : jMem) (k : Int) (f : Int → Int) (hk : mOK S0) (hkk : 0 ≤ k ∧ k < 8) (hf : isOrd (pvol (S0 2)) k.toNat f) : ∀ (mm : Nat) (i : Int) (S : jMem), mm = (i).toNat → ((0 ≤ i ∧ i ≤ k) ∧ an3 S0 k f i S) → (∀ S', an2 S0 (k + 1) S' → J E G 138 [(0, .ref (jad G 0)), (1, .int (iI k))] [] S') → J E G 73 [(0, .ref (jad G 0)), (1, .int (iI (k))), (2, .int (iI (i)))] [] S := by
  intro mm
  induction mm using Nat.strongRecOn with | ind mm ih => ?_
  intro i S hm hi K
  obtain ⟨ht, hj⟩ := hi
  refine J_iload_n C 2 dX6_anew_73 rfl ?_
  refine J_if_le C 138 dX6_anew_74 (by decide) (by omega) (fun h1 => ?_) (fun h1 => ?_)
  · refine J_lv [0, 1] rfl ?_
    exact K S (hj.done (by omega) hf (Or.inl (by omega)))
  · have e1 : S 7 i = k := hj.2.1.2.2.1
    have e2 : S 7 (i - 1) = f (i - 1) := hj.2.1.2.1 (i - 1) (by omega) (by omega)
    have e3 := isOrd.in _ hf (i - 1) (by omega) (by omega)
    refine J_aload_n C 0 dX6_anew_77 rfl ?_
    refine J_aload_n C 0 dX6_anew_78 rfl ?_
    refine g_X6_28 hG C dX6_anew_79 ?_
    refine J_iload_n C 2 dX6_anew_82 rfl ?_
    refine mald hG C 7 8 (by decide) dX6_anew_83 (by omega) (by omega) ?_
    refine J_callV (k := 0) (rest := []) C (m_volume hG S (S 7 (i)) (by omega)) kc_X6_volume kl_X6_95 (by rw [hG.2]; decide) (by rw [hG.1]; rfl) rfl dX6_anew_84 rfl rfl (by decide) (Nat.le_of_ble_eq_true rfl) (J_ki (fun v2 S2 h2 => ?_))
    obtain ⟨rfl, rfl⟩ := h2
    refine J_top (b := pvol (S0 2) (S 7 (i))) (by unfold pvol; rw [hj.1 2 (by decide), Int.mul_comm (S 7 (i)) 3]) ?_
    have _ := pvol_in hk (b := S 7 (i)) (by omega)
    refine J_aload_n C 0 dX6_anew_87 rfl ?_
    refine J_aload_n C 0 dX6_anew_88 rfl ?_
    refine g_X6_28 hG C dX6_anew_89 ?_
    refine J_iload_n C 2 dX6_anew_92 rfl ?_
    refine J_iconst C dX6_anew_93 ?_
    refine J_isub C dX6_anew_94 ?_
    refine mald hG C 7 8 (by decide) dX6_anew_95 (by omega) (by omega) ?_
    refine J_callV (k := 0) (rest := [.int (iI (pvol (S0 2) (S 7 (i))))]) C (m_volume hG S (S 7 ((i) - (1))) (by omega)) kc_X6_volume kl_X6_95 (by rw [hG.2]; decide) (by rw [hG.1]; rfl) rfl dX6_anew_96 rfl rfl (by decide) (Nat.le_of_ble_eq_true rfl) (J_ki (fun v3 S3 h3 => ?_))
    obtain ⟨rfl, rfl⟩ := h3
    refine J_top (b := pvol (S0 2) (S 7 ((i) - (1)))) (by unfold pvol; rw [hj.1 2 (by decide), Int.mul_comm (S 7 ((i) - (1))) 3]) ?_
    have _ := pvol_in hk (b := S 7 ((i) - (1))) (by omega)
    refine J_icmp_le C 138 dX6_anew_99 (by decide) (by omega) (by omega) (fun h4 => ?_) (fun h4 => ?_)
    · refine J_lv [0, 1] rfl ?_
      exact K S (hj.done (by omega) hf (Or.inr (by rw [← e2, ← e1]; assumption)))
    · refine J_aload_n C 0 dX6_anew_102 rfl ?_
      refine g_X6_28 hG C dX6_anew_103 ?_
      refine J_iload_n C 2 dX6_anew_106 rfl ?_
      refine mald hG C 7 8 (by decide) dX6_anew_107 (by omega) (by omega) ?_
      refine J_istore_n (lv' := [(3, .int (iI (S 7 (i)))), (0, .ref (jad G 0)), (1, .int (iI (k))), (2, .int (iI (i)))]) C dX6_anew_108 (by decide) rfl ?_
      refine J_aload_n C 1 dX6_anew_109 rfl ?_
      refine g_X6_28 hG C dX6_anew_110 ?_
      refine J_iload_n C 3 dX6_anew_113 rfl ?_
      refine J_aload_n C 1 dX6_anew_114 rfl ?_
      refine g_X6_28 hG C dX6_anew_115 ?_
      refine J_iload_n C 3 dX6_anew_118 rfl ?_
      refine J_iconst C dX6_anew_119 ?_
      refine J_isub C dX6_anew_120 ?_
      refine mald hG C 7 8 (by decide) dX6_anew_121 (by omega) (by omega) ?_
      refine mast hG C 7 8 (by decide) dX6_anew_122 (by omega) (by omega) ?_
      refine J_aload_n C 1 dX6_anew_123 rfl ?_
      refine g_X6_28 hG C dX6_anew_124 ?_
      refine J_iload_n C 3 dX6_anew_127 rfl ?_
      refine J_iconst C dX6_anew_128 ?_
      refine J_isub C dX6_anew_129 ?_
      refine J_iload_n C 0 dX6_anew_130 rfl ?_
      refine mast hG C 7 8 (by decide) dX6_anew_131 (by omega) (by omega) ?_
      refine J_iinc (lv' := [(2, .int (iI (i + (-1)))), (3, .int (iI (S 7 (i)))), (0, .ref (jad G 0)), (1, .int (iI (k)))]) C 3 dX6_anew_132 rfl (by decide) rfl ?_
      refine J_goto C 73 dX6_anew_135 (by decide) ?_
      refine J_lv [2, 3, 0] rfl ?_
      have e4 : pvol (S0 2) (f (i - 1)) < pvol (S0 2) k := by rw [← e2, ← e1]; omega
      exact ih _ (by omega) (i - 1) _ rfl ⟨by omega, hj.step (by omega) e4⟩ K
theorem lm_sort {E : jEnv} {G : jG} (hG : mG G) (C : jX E G cX6_anew 4 RX6 3 73) (S0 : jMem) (hk : mOK S0) : ∀ (mm : Nat) (k : Int) (S : jMem), mm = (S0 0 1 - k).toNat → ((0 ≤ k ∧ k ≤ S0 0 1) ∧ an2 S0 k S) → (∀ S', an2 S0 (S0 0 1) S' → J E G 144 [(0, .ref (jad G 0))] [] S') → J E G 63 [(0, .ref (jad G 0)), (1, .int (iI (k)))] [] S := by
  intro mm
  induction mm using Nat.strongRecOn with | ind mm ih => ?_
  intro k S hm hi K
  obtain ⟨hkk, hj⟩ := hi
  have hn := hk.1
  have e1 : S 0 1 = S0 0 1 := by rw [hj.1 0 (by decide)]
  refine J_iload_n C 1 dX6_anew_63 rfl ?_
  refine J_aload_n C 0 dX6_anew_64 rfl ?_
  refine g_X6_81 hG C dX6_anew_65 ?_
  refine J_icmp_ge C 144 dX6_anew_68 (by decide) (by omega) (by omega) (fun h1 => ?_) (fun h1 => ?_)
  · have ek : k = S0 0 1 := by omega
    rw [ek] at hj
    refine J_lv [0] rfl ?_
    exact K S hj
  · refine J_iload_n C 1 dX6_anew_71 rfl ?_
    refine J_istore_n (lv' := [(2, .int (iI (k))), (0, .ref (jad G 0)), (1, .int (iI (k)))]) C dX6_anew_72 (by decide) rfl ?_
    refine J_lv [1, 2, 0] rfl ?_
    refine lm_sw hG C S0 k (S 7) hk (by omega) hj.2.1 _ k S rfl ⟨by omega, hj.go (by omega)⟩ (fun S2 hj2 => ?_)
    refine J_iinc (lv' := [(1, .int (iI (k + 1))), (0, .ref (jad G 0))]) C 1 dX6_anew_138 rfl (by decide) rfl ?_
    refine J_goto C 63 dX6_anew_141 (by decide) ?_
    refine J_lv [1, 0] rfl ?_
    exact ih _ (by omega) (k + 1) S2 rfl ⟨by omega, hj2⟩ K
theorem lm_an1 {E : jEnv} {G : jG} (hG : mG G) (C : jX E G cX6_anew 4 RX6 3 73) (S0 : jMem) : ∀ (mm : Nat) (k : Int) (S : jMem), mm = (8 - k).toNat → ((0 ≤ k ∧ k ≤ 8) ∧ an1 S0 k S) → (∀ S', an1 S0 8 S' → J E G 61 [(0, .ref (jad G 0))] [] S') → J E G 28 [(0, .ref (jad G 0)), (1, .int (iI (k)))] [] S := by
  intro mm
  induction mm using Nat.strongRecOn with | ind mm ih => ?_
  intro k S hm hi K
  obtain ⟨hkk, hj⟩ := hi
  refine J_iload_n C 1 dX6_anew_28 rfl ?_
  refine J_bipush C dX6_anew_29 (by decide) ?_
  refine J_icmp_ge C 61 dX6_anew_31 (by decide) (by omega) (by omega) (fun h1 => ?_) (fun h1 => ?_)
  · have ek : k = 8 := by omega
    rw [ek] at hj
    refine J_lv [0] rfl ?_
    exact K S hj
  · refine J_aload_n C 0 dX6_anew_34 rfl ?_
    refine g_X6_22 hG C dX6_anew_35 ?_
    refine J_iload_n C 1 dX6_anew_38 rfl ?_
    refine J_iconst C dX6_anew_39 ?_
    refine mast hG C 5 8 (by decide) dX6_anew_40 (by omega) (by omega) ?_
    refine J_aload_n C 0 dX6_anew_41 rfl ?_
    refine g_X6_31 hG C dX6_anew_42 ?_
    refine J_iload_n C 1 dX6_anew_45 rfl ?_
    refine J_iconst C dX6_anew_46 ?_
    refine mast hG C 8 8 (by decide) dX6_anew_47 (by omega) (by omega) ?_
    refine J_aload_n C 0 dX6_anew_48 rfl ?_
    refine g_X6_28 hG C dX6_anew_49 ?_
    refine J_iload_n C 1 dX6_anew_52 rfl ?_
    refine J_iload_n C 1 dX6_anew_53 rfl ?_
    refine mast hG C 7 8 (by decide) dX6_anew_54 (by omega) (by omega) ?_
    refine J_iinc (lv' := [(1, .int (iI (k + 1))), (0, .ref (jad G 0))]) C 1 dX6_anew_55 rfl (by decide) rfl ?_
    refine J_goto C 28 dX6_anew_58 (by decide) ?_
    refine J_lv [1, 0] rfl ?_
    exact ih _ (by omega) (k + 1) _ rfl ⟨by omega, hj.put⟩ K
theorem mAnew.mk {S0 S1 S2 S3 S4 : jMem} (hk : mOK S0) (k0 : keeps [0] S0 S1) (e1 : S1 0 1 = S0 0 1) (e7 : S1 0 7 = bb (S0 0 1 = 0)) (e8 : S1 0 8 = 0) (e9 : S1 0 9 = 0) (h1 : an1 S1 8 S2) (h2 : an2 S2 (S2 0 1) S3) (h4 : anI S3 (S3 0 1) 0 S4) : mAnew S0 (up2 S4 0 25 0) := by
  have w1 : keeps [0, 5, 7, 8, 11, 12, 13] S0 S1 := k0.wide (by decide)
  have w2 : keeps [0, 5, 7, 8, 11, 12, 13] S1 S2 := h1.1.wide (by decide)
  have w3 : keeps [0, 5, 7, 8, 11, 12, 13] S2 S3 := h2.1.wide (by decide)
  have w4 : keeps [0, 5, 7, 8, 11, 12, 13] S3 S4 := h4.1.wide (by decide)
  have c0 : ∀ j, S4 0 j = S1 0 j := fun j => by rw [h4.1 0 (by decide), h2.1 0 (by decide), h1.1 0 (by decide)]
  have n4 : up2 S4 0 25 0 0 1 = S0 0 1 := by rw [up2_a _ _ _ (by decide), c0, e1]
  have n3 : S3 0 1 = S0 0 1 := by rw [h2.1 0 (by decide), h1.1 0 (by decide), e1]
  have n2 : S2 0 1 = S0 0 1 := by rw [h1.1 0 (by decide), e1]
  have f1 : S3 1 = S0 1 := by rw [h2.1 1 (by decide), h1.1 1 (by decide), k0 1 (by decide)]
  have f2 : S3 2 = S0 2 := by rw [h2.1 2 (by decide), h1.1 2 (by decide), k0 2 (by decide)]
  have f4 : S3 4 = S0 4 := by rw [h2.1 4 (by decide), h1.1 4 (by decide), k0 4 (by decide)]
  have g2 : S2 2 = S0 2 := by rw [h1.1 2 (by decide), k0 2 (by decide)]
  refine ⟨((w1.tr w2).tr (w3.tr w4)).up (by decide) _ _, ?_, ⟨n4, ?_, ?_, ?_, up2_eq _ _ _ _⟩, fun j a b => ?_, fun j a b => ?_⟩
  · unfold mS
    rw [n4, up2_k _ _ _ (by decide), up2_k _ _ _ (by decide), up2_k _ _ _ (by decide), up2_k _ _ _ (by decide), up2_k _ _ _ (by decide), up2_k _ _ _ (by decide), up2_k _ _ _ (by decide), h4.1 1 (by decide), h4.1 2 (by decide), h4.1 4 (by decide), h4.1 7 (by decide), f1, f2, f4]
    have a1 := h2.2.1
    have a2 := h4.2
    rw [g2, n2] at a1
    rw [n3, f1, f2, f4] at a2
    exact ⟨a1, by simpa using a2.1, by simpa using a2.2.1, a2.2.2⟩
  · rw [up2_a _ _ _ (by decide), c0, e7]
  · rw [up2_a _ _ _ (by decide), c0, e8]
  · rw [up2_a _ _ _ (by decide), c0, e9]
  · rw [up2_k _ _ _ (by decide), h4.1 5 (by decide), h2.1 5 (by decide)]; exact (h1.2 j a b).1
  · rw [up2_k _ _ _ (by decide), h4.1 8 (by decide), h2.1 8 (by decide)]; exact (h1.2 j a b).2.1
theorem anew_go {E : jEnv} {G : jG} (hG : mG G) (C : jX E G cX6_anew 4 RX6 3 73) {S0 S1 : jMem} (R : jR E G none (jPv (fun S' => mAnew S0 S'))) (hk : mOK S0) (k0 : keeps [0] S0 S1) (e1 : S1 0 1 = S0 0 1) (e7 : S1 0 7 = bb (S0 0 1 = 0)) (e8 : S1 0 8 = 0) (e9 : S1 0 9 = 0) : J E G 28 [(0, .ref (jad G 0)), (1, .int (iI (0)))] [] S1 := by
  refine lm_an1 hG C S1 _ 0 S1 rfl ⟨by omega, keeps.rf, fun j a b => by omega⟩ (fun S2 h1 => ?_)
  have hk1 : mOK S1 := k0.mok (by decide) e1 hk
  have hk2 : mOK S2 := h1.1.mok (by decide) (by rw [h1.1 0 (by decide)]) hk1
  refine J_iconst C dX6_anew_61 ?_
  refine J_istore_n (lv' := [(1, .int (iI (0))), (0, .ref (jad G 0))]) C dX6_anew_62 (by decide) rfl ?_
  refine J_lv [1, 0] rfl ?_
  have hn := hk2.1
  refine lm_sort hG C S2 hk2 _ 0 S2 rfl ⟨by omega, keeps.rf, trivial, fun j a b => (h1.2 j a b).2.2⟩ (fun S3 h2 => ?_)
  have hk3 : mOK S3 := h2.1.mok (by decide) (by rw [h2.1 0 (by decide)]) hk2
  refine J_iconst C dX6_anew_144 ?_
  refine J_istore_n (lv' := [(1, .int (iI (0))), (0, .ref (jad G 0))]) C dX6_anew_145 (by decide) rfl ?_
  refine J_lv [1, 0] rfl ?_
  have hn3 := hk3.1
  exact lm_anb hG C S3 (fun S' => mAnew S0 S') hk3 (fun S4 h4 => mAnew.mk hk k0 e1 e7 e8 e9 h1 h2 h4) R _ 0 S3 rfl ⟨by omega, keeps.rf, fun b a u b1 a1 a2 hc => by omega, fun b t a b1 a1 a2 t1 t2 hc => by omega, fun b t b1 t1 t2 hc => by omega⟩
theorem m_anew {G : jG} (hG : mG G) (S0 : jMem) (hk : mOK S0) : jM G yX6_anew cX6_anew 4 none 3 73 [.ref (jad G 0)] S0 (jPv (fun S' => mAnew S0 S')) := by
  refine jM.of (by decide) (Nat.le_of_ble_eq_true rfl) (fun E C R => ?_)
  show J E G 0 [(0, .ref (jad G 0))] [] _
  have hn := hk.1
  refine J_aload_n C 0 dX6_anew_0 rfl ?_
  refine J_aload_n C 0 dX6_anew_1 rfl ?_
  refine g_X6_81 hG C dX6_anew_2 ?_
  refine J_if_ne C 12 dX6_anew_5 (by decide) (by omega) (fun h1 => ?_) (fun h1 => ?_)
  · refine J_iconst C dX6_anew_12 ?_
    refine p_X6_85 hG C dX6_anew_13 ?_
    refine J_aload_n C 0 dX6_anew_16 rfl ?_
    refine J_iconst C dX6_anew_17 ?_
    refine p_X6_88 hG C dX6_anew_18 ?_
    refine J_aload_n C 0 dX6_anew_21 rfl ?_
    refine J_lconst C 0 dX6_anew_22 (by decide) ?_
    refine p_X6_91 hG C dX6_anew_23 ?_
    refine J_iconst C dX6_anew_26 ?_
    refine J_istore_n (lv' := [(1, .int (iI (0))), (0, .ref (jad G 0))]) C dX6_anew_27 (by decide) rfl ?_
    refine J_lv [1, 0] rfl ?_
    refine anew_go hG C R (S1 := (up2 (up2 (up2 S0 0 (7) (0)) 0 (8) (0)) 0 (9) (0))) hk (keeps.up (keeps.up (keeps.up keeps.rf (by decide) _ _) (by decide) _ _) (by decide) _ _) (by rw [up2_a _ _ _ (by decide), up2_a _ _ _ (by decide), up2_a _ _ _ (by decide)]) (by rw [up2_a _ _ _ (by decide), up2_a _ _ _ (by decide), up2_eq]; first | exact (bb_t (by assumption)).symm | exact (bb_f (by assumption)).symm) (by rw [up2_a _ _ _ (by decide), up2_eq]) (up2_eq _ _ _ _)
  · refine J_iconst C dX6_anew_8 ?_
    refine J_goto C 13 dX6_anew_9 (by decide) ?_
    refine p_X6_85 hG C dX6_anew_13 ?_
    refine J_aload_n C 0 dX6_anew_16 rfl ?_
    refine J_iconst C dX6_anew_17 ?_
    refine p_X6_88 hG C dX6_anew_18 ?_
    refine J_aload_n C 0 dX6_anew_21 rfl ?_
    refine J_lconst C 0 dX6_anew_22 (by decide) ?_
    refine p_X6_91 hG C dX6_anew_23 ?_
    refine J_iconst C dX6_anew_26 ?_
    refine J_istore_n (lv' := [(1, .int (iI (0))), (0, .ref (jad G 0))]) C dX6_anew_27 (by decide) rfl ?_
    refine J_lv [1, 0] rfl ?_
    refine anew_go hG C R (S1 := (up2 (up2 (up2 S0 0 (7) (1)) 0 (8) (0)) 0 (9) (0))) hk (keeps.up (keeps.up (keeps.up keeps.rf (by decide) _ _) (by decide) _ _) (by decide) _ _) (by rw [up2_a _ _ _ (by decide), up2_a _ _ _ (by decide), up2_a _ _ _ (by decide)]) (by rw [up2_a _ _ _ (by decide), up2_a _ _ _ (by decide), up2_eq]; first | exact (bb_t (by assumption)).symm | exact (bb_f (by assumption)).symm) (by rw [up2_a _ _ _ (by decide), up2_eq]) (up2_eq _ _ _ _)
