theorem l_sol {E : jEnv} {G : jG} (hG : cG G) (C : jX E G cX1_seekOnLastAxis 4 RX1 4 95) (S : jMem) (n0 n1 : Int) (P : Int → jMem → Prop) (hk : cOK S) (hd : dOK S) (ha : aOK S n0 n1) (f0 : isFn S 0 n0) (f1 : isFn S 1 n1) (hz : 0 ≤ S 31 2 ∧ S 31 2 < 2 ^ 21) (hP0 : (∀ k, isFn S 2 k → zbit (S 31 2) k → ¬ pprove (S 1 4) (S 2) (S 3) (S 4) n0 n1 k (pall (S 1 4))) → P 0 S) (hP1 : ∀ k, isFn S 2 k → zbit (S 31 2) k → pprove (S 1 4) (S 2) (S 3) (S 4) n0 n1 k (pall (S 1 4)) → (∀ j, 0 ≤ j → j < k → zbit (S 31 2) j → ¬ pprove (S 1 4) (S 2) (S 3) (S 4) n0 n1 j (pall (S 1 4))) → P 1 (up2 (up2 (up2 (up2 S 26 0 (n0)) 26 1 (n1)) 26 2 (k)) 26 3 (preason (pprove (S 1 4) (S 2) (S 3) (S 4) n0 n1 k) (S 1 4 - 0).toNat 0 (pall (S 1 4))))) (R : jR E G (some .boolean) (jPi P)) : ∀ (mm : Nat) (n2 : Int), mm = (S 2 2 / 2 * 2 + 1 - n2).toNat → ((0 ≤ n2 ∧ n2 ≤ S 2 2 / 2 * 2 + 1) ∧ ∀ j, 0 ≤ j → j < n2 → zbit (S 31 2) j → ¬ pprove (S 1 4) (S 2) (S 3) (S 4) n0 n1 j (pall (S 1 4))) → J E G 8 [(0, .ref (jad G 25)), (1, .int (iI (n0))), (2, .int (iI (n1))), (3, .int (iI (n2)))] [] S := by
  intro mm
  induction mm using Nat.strongRecOn with | ind mm ih => ?_
  intro n2 hm hj
  obtain ⟨hn2, hj⟩ := hj
  have hpa := pall_in hk.1
  have l0 := hk.2.1 0 (by omega) (by omega)
  have l1 := hk.2.1 1 (by omega) (by omega)
  have l2 := hk.2.1 2 (by omega) (by omega)
  refine J_iload_n C 3 dX1_seekOnLastAxis_8 rfl ?_
  refine J_aload_n C 0 dX1_seekOnLastAxis_9 rfl ?_
  refine J_iconst C dX1_seekOnLastAxis_10 ?_
  refine J_callV (k := 25) (rest := [.int (iI (n2))]) C (c_lastF hG S (2) hk (by omega)) kc_X1_lastFunction kl_X1_46 (by rw [hG.2]; decide) (by rw [hG.1]; rfl) rfl dX1_seekOnLastAxis_11 rfl rfl (by decide) (Nat.le_of_ble_eq_true rfl) (J_ki (fun v1 S1 h1 => ?_))
  obtain ⟨rfl, rfl⟩ := h1
  have q1 := hk.2.1 (2) (by omega) (by omega)
  refine J_icmp_gt C 61 dX1_seekOnLastAxis_14 (by decide) (by omega) (by omega) (fun h2 => ?_) (fun h2 => ?_)
  · refine J_iconst C dX1_seekOnLastAxis_61 ?_
    exact J_zret R C dX1_seekOnLastAxis_62 (Or.inl rfl) (jPi.mk (hP0 (fun k fk => hj k fk.1 (by have := fk.2; omega))))
  · have f2 : isFn S 2 n2 := ⟨hn2.1, by omega⟩
    refine J_aload_n C 0 dX1_seekOnLastAxis_17 rfl ?_
    refine J_iconst C dX1_seekOnLastAxis_18 ?_
    refine J_iload_n C 3 dX1_seekOnLastAxis_19 rfl ?_
    refine J_callV (k := 25) (rest := []) C (c_isTried hG S (2) (n2) (by omega) (by omega) (by omega)) kc_X1_isTried kl_X1_93 (by rw [hG.2]; decide) (by rw [hG.1]; rfl) rfl dX1_seekOnLastAxis_20 rfl rfl (by decide) (Nat.le_of_ble_eq_true rfl) (J_ki (fun v3 S3 h3 => ?_))
    obtain ⟨rfl, rfl⟩ := h3
    refine J_if_eq_b C 55 dX1_seekOnLastAxis_23 (by decide) (fun h4 => ?_) (fun h4 => ?_)
    · refine J_iinc (lv' := [(3, .int (iI (n2 + 1))), (0, .ref (jad G 25)), (1, .int (iI (n0))), (2, .int (iI (n1)))]) C 3 dX1_seekOnLastAxis_55 rfl (by decide) rfl ?_
      refine J_goto C 8 dX1_seekOnLastAxis_58 (by decide) ?_
      refine J_lv [1, 2, 3, 0] rfl ?_
      refine ih _ (by omega) (n2 + 1) rfl ⟨by omega, fun j a1 a2 a3 => ?_⟩
      by_cases e : j = n2
      · subst e; first | assumption | exact absurd a3 (by assumption)
      · exact hj j a1 (by omega) a3
    · refine J_aload_n C 0 dX1_seekOnLastAxis_26 rfl ?_
      refine J_aload_n C 0 dX1_seekOnLastAxis_27 rfl ?_
      refine g_X1_30 hG C dX1_seekOnLastAxis_28 ?_
      refine J_callV (k := 1) (rest := [.ref (jad G 25)]) C (c_allBoxes hG S hk.1) kc_X4_allBoxes kl_X1_107 (by rw [hG.2]; decide) (by rw [hG.1]; rfl) rfl dX1_seekOnLastAxis_31 rfl rfl (by decide) (Nat.le_of_ble_eq_true rfl) (J_ki (fun v5 S5 h5 => ?_))
      obtain ⟨rfl, rfl⟩ := h5
      refine J_iload_n C 3 dX1_seekOnLastAxis_34 rfl ?_
      refine J_callV (k := 25) (rest := []) C (c_proves hG S n0 n1 (n2) (1 * 2 ^ (S 1 4).toNat - 1) hk hd ha f0 f1 f2 (by omega)) kc_X1_proves kl_X1_111 (by rw [hG.2]; decide) (by rw [hG.1]; rfl) rfl dX1_seekOnLastAxis_35 rfl rfl (by decide) (Nat.le_of_ble_eq_true rfl) (J_ki (fun v6 S6 h6 => ?_))
      obtain ⟨rfl, rfl⟩ := h6
      refine J_if_eq_b C 55 dX1_seekOnLastAxis_38 (by decide) (fun h7 => ?_) (fun h7 => ?_)
      · refine J_iinc (lv' := [(3, .int (iI (n2 + 1))), (0, .ref (jad G 25)), (1, .int (iI (n0))), (2, .int (iI (n1)))]) C 3 dX1_seekOnLastAxis_55 rfl (by decide) rfl ?_
        refine J_goto C 8 dX1_seekOnLastAxis_58 (by decide) ?_
        refine J_lv [1, 2, 3, 0] rfl ?_
        refine ih _ (by omega) (n2 + 1) rfl ⟨by omega, fun j a1 a2 a3 => ?_⟩
        by_cases e : j = n2
        · subst e; first | assumption | exact absurd a3 (by assumption)
        · exact hj j a1 (by omega) a3
      · refine J_aload_n C 0 dX1_seekOnLastAxis_41 rfl ?_
        refine J_iload_n C 1 dX1_seekOnLastAxis_42 rfl ?_
        refine J_iload_n C 2 dX1_seekOnLastAxis_43 rfl ?_
        refine J_iload_n C 3 dX1_seekOnLastAxis_44 rfl ?_
        refine J_aload_n C 0 dX1_seekOnLastAxis_45 rfl ?_
        refine J_iload_n C 3 dX1_seekOnLastAxis_46 rfl ?_
        refine J_callV (k := 25) (rest := [.int (iI (n2)), .int (iI (n1)), .int (iI (n0)), .ref (jad G 25)]) C (c_reason hG S n0 n1 (n2) hk hd ha f0 f1 f2) kc_X1_reason kl_X1_114 (by rw [hG.2]; decide) (by rw [hG.1]; rfl) rfl dX1_seekOnLastAxis_47 rfl rfl (by decide) (Nat.le_of_ble_eq_true rfl) (J_ki (fun v8 S8 h8 => ?_))
        obtain ⟨rfl, rfl⟩ := h8
        refine J_callV (k := 25) (rest := []) C (c_keep hG S (n0) (n1) (n2) (preason (pprove (S 1 4) (S 2) (S 3) (S 4) n0 n1 (n2)) (S 1 4 - 0).toNat 0 (pall (S 1 4)))) kc_X1_keep kl_X1_99 (by rw [hG.2]; decide) (by rw [hG.1]; rfl) rfl dX1_seekOnLastAxis_50 rfl rfl (by decide) (Nat.le_of_ble_eq_true rfl) (J_kv (fun S9 h9 => ?_))
        subst h9
        refine J_iconst C dX1_seekOnLastAxis_53 ?_
        exact J_zret R C dX1_seekOnLastAxis_54 (Or.inr rfl) (jPi.mk (hP1 n2 f2 (by assumption) (by assumption) hj))
theorem c_sol {G : jG} (hG : cG G) (S0 : jMem) (n0 n1 : Int) (hk : cOK S0) (hd : dOK S0) (f0 : isFn S0 0 n0) (f1 : isFn S0 1 n1) (hz : 0 ≤ S0 31 2 ∧ S0 31 2 < 2 ^ 21) : jM G yX1_seekOnLastAxis cX1_seekOnLastAxis 4 (some .boolean) 4 95 [.ref (jad G 25), .int (iI (n0)), .int (iI (n1))] S0 (jPi (fun v S' => keeps [25, 26, 30] S0 S' ∧ (∀ j, j ≠ 6 → S' 25 j = S0 25 j) ∧ ((v = 0 ∧ ∀ k, isFn S0 2 k → zbit (S0 31 2) k → ¬ pprove (S0 1 4) (S0 2) (S0 3) (S0 4) n0 n1 k (pall (S0 1 4))) ∨ (v = 1 ∧ ∃ k, isFn S0 2 k ∧ zbit (S0 31 2) k ∧ pprove (S0 1 4) (S0 2) (S0 3) (S0 4) n0 n1 k (pall (S0 1 4)) ∧ (∀ j, 0 ≤ j → j < k → zbit (S0 31 2) j → ¬ pprove (S0 1 4) (S0 2) (S0 3) (S0 4) n0 n1 j (pall (S0 1 4))) ∧ S' 26 0 = n0 ∧ S' 26 1 = n1 ∧ S' 26 2 = k ∧ S' 26 3 = preason (pprove (S0 1 4) (S0 2) (S0 3) (S0 4) n0 n1 k) (S0 1 4 - 0).toNat 0 (pall (S0 1 4)))))) := by
  refine jM.of (by decide) (Nat.le_of_ble_eq_true rfl) (fun E C R => ?_)
  show J E G 0 [(0, .ref (jad G 25)), (1, .int (iI (n0))), (2, .int (iI (n1)))] [] _
  refine J_aload_n C 0 dX1_seekOnLastAxis_0 rfl ?_
  refine J_iload_n C 1 dX1_seekOnLastAxis_1 rfl ?_
  refine J_iload_n C 2 dX1_seekOnLastAxis_2 rfl ?_
  refine J_callV (k := 25) (rest := []) C (c_choose hG S0 (n0) (n1) hk hd f0 f1) kc_X1_choose kl_X1_103 (by rw [hG.2]; decide) (by rw [hG.1]; rfl) rfl dX1_seekOnLastAxis_3 rfl rfl (by decide) (Nat.le_of_ble_eq_true rfl) (J_kv (fun S1 h1 => ?_))
  obtain ⟨k1, k2, k3⟩ := h1
  refine J_iconst C dX1_seekOnLastAxis_6 ?_
  refine J_istore_n (lv' := [(3, .int (iI (0))), (0, .ref (jad G 25)), (1, .int (iI (n0))), (2, .int (iI (n1)))]) C dX1_seekOnLastAxis_7 (by decide) rfl ?_
  refine J_lv [1, 2, 3, 0] rfl ?_
  have hk1 := k1.ok (by decide) hk
  have hd1 := hd.keeps k1 (by decide)
  have q1 : S1 1 = S0 1 := k1 1 (by decide)
  have q2 : S1 2 = S0 2 := k1 2 (by decide)
  have q3 : S1 3 = S0 3 := k1 3 (by decide)
  have q4 : S1 4 = S0 4 := k1 4 (by decide)
  have q31 : S1 31 = S0 31 := k1 31 (by decide)
  refine l_sol hG C S1 n0 n1 _ hk1 hd1 k3 (by rw [isFn, q2]; exact f0) (by rw [isFn, q2]; exact f1) (by rw [q31]; exact hz) (fun h => ?_) (fun k fk zk tk lk => ?_) R _ 0 rfl ⟨⟨Int.le_refl _, by have := hk1.2.1 2 (by omega) (by omega); omega⟩, fun j a1 a2 => by omega⟩
  · rw [q1, q2, q3, q4, q31] at h
    refine ⟨k1.wide (by decide), fun j hj => by rw [k2 j, if_neg hj], Or.inl ⟨rfl, fun k fk => h k (by rw [isFn, q2]; exact fk)⟩⟩
  · rw [q1, q2, q3, q4] at tk
    rw [q31] at zk
    rw [q1, q2, q3, q4, q31] at lk
    rw [isFn, q2] at fk
    refine ⟨(((((k1.wide (by decide)).up (by decide) _ _).up (by decide) _ _).up (by decide) _ _).up (by decide) _ _), fun j hj => ?_, Or.inr ⟨rfl, k, fk, zk, tk, lk, ?_, ?_, ?_, ?_⟩⟩
    · rw [up2_k _ _ _ (by decide), up2_k _ _ _ (by decide), up2_k _ _ _ (by decide), up2_k _ _ _ (by decide), k2 j, if_neg hj]
    · exact rd_a (by omega) (rd_a (by omega) (rd_a (by omega) (rd_e rfl)))
    · exact rd_a (by omega) (rd_a (by omega) (rd_e rfl))
    · exact rd_a (by omega) (rd_e rfl)
    · rw [q1, q2, q3, q4]; exact rd_e rfl
/-- no proof by functions that are tried, up to these -/
def noT (S : jMem) (n0 n1 : Int) : Prop := ∀ a b c, isFn S 0 a → isFn S 1 b → isFn S 2 c → zbit (S 31 0) a → zbit (S 31 1) b → zbit (S 31 2) c → (a < n0 ∨ (a = n0 ∧ b < n1)) → ¬ pprove (S 1 4) (S 2) (S 3) (S 4) a b c (pall (S 1 4))
theorem isProof_found {S : jMem} (hk : cOK S) (hd : dOK S) (t0 : trOK S 0) (t1 : trOK S 1) (t2 : trOK S 2) {n0 n1 k : Int} {g : Int → Int} (f0 : isFn S 0 n0) (f1 : isFn S 1 n1) (f2 : isFn S 2 k) (hT : pprove (S 1 4) (S 2) (S 3) (S 4) n0 n1 k (pall (S 1 4))) (hn : noT S n0 n1) (hl : ∀ j, 0 ≤ j → j < k → zbit (S 31 2) j → ¬ pprove (S 1 4) (S 2) (S 3) (S 4) n0 n1 j (pall (S 1 4))) (e0 : g 0 = n0) (e1 : g 1 = n1) (e2 : g 2 = k) (e3 : g 3 = preason (pprove (S 1 4) (S 2) (S 3) (S 4) n0 n1 k) (S 1 4 - 0).toNat 0 (pall (S 1 4))) : isProof (S 1 4) (S 2) (S 3) (S 4) g := by
  refine Or.inr ⟨n0, n1, k, f0, f1, f2, hT, fun a' b' c' fa fb fc hx ht => ?_, e0, e1, e2, e3⟩
  obtain ⟨a, b, c, ga, gb, gc, hp⟩ := tried_of hk hd t0 t1 t2 fa fb fc ht
  unfold lex3 at hx
  have ga2 := ga.2.1
  have gb2 := gb.2.1
  have gc2 := gc.2.1
  by_cases q : a < n0 ∨ (a = n0 ∧ b < n1)
  · exact hn a b c ga.1 gb.1 gc.1 ga.2.2 gb.2.2 gc.2.2 q hp
  · have ea : a = n0 := by omega
    have eb : b = n1 := by omega
    subst ea; subst eb
    exact hl c gc.1.1 (by omega) gc.2.2 hp
theorem isProof_none {S : jMem} (hk : cOK S) (hd : dOK S) (t0 : trOK S 0) (t1 : trOK S 1) (t2 : trOK S 2) {n0 : Int} {g : Int → Int} (h0 : S 2 0 / 2 * 2 < n0) (hn : noT S n0 0) (e : g 0 = -9 ∧ g 1 = -9 ∧ g 2 = -9 ∧ g 3 = -9) : isProof (S 1 4) (S 2) (S 3) (S 4) g := by
  refine Or.inl ⟨fun a' b' c' fa fb fc ht => ?_, e⟩
  obtain ⟨a, b, c, ga, gb, gc, hp⟩ := tried_of hk hd t0 t1 t2 fa fb fc ht
  exact hn a b c ga.1 gb.1 gc.1 ga.2.2 gb.2.2 gc.2.2 (Or.inl (by have := ga.1.2; omega)) hp
theorem trOK_far {S0 S : jMem} {a c : Int} (h : trOK S0 c) (ho : only 31 S0 S) (hj : ∀ j, j ≠ a → S 31 j = S0 31 j) (hc : c ≠ a) : trOK S c := by
  unfold trOK isFn at h ⊢
  rw [hj c hc, ho 2 (by decide)]
  refine ⟨h.1, fun n hn => ?_⟩
  rcases h.2 n hn with q | ⟨p, p1, p2, p3⟩
  · exact Or.inl q
  · exact Or.inr ⟨p, p1, p2, by rw [pdom_eq ho (by decide)]; exact p3⟩
theorem l_sp2 {E : jEnv} {G : jG} (hG : cG G) (C : jX E G cX1_seekProof 3 RX1 5 118) (S0 : jMem) (P : jMem → Prop) (hk : cOK S0) (hd : dOK S0) (t0 : trOK S0 0) (t1 : trOK S0 1) (t2 : trOK S0 2) (hP : ∀ S', keeps [25, 26, 30] S0 S' → (∀ j, j ≠ 6 → S' 25 j = S0 25 j) → isProof (S0 1 4) (S0 2) (S0 3) (S0 4) (S' 26) → P S') (n0 : Int) (hn0 : isFn S0 0 n0) (R : jR E G none (jPv P)) : ∀ (mm : Nat) (n1 : Int) (S : jMem), mm = (S0 2 1 / 2 * 2 + 1 - n1).toNat → (keeps [25, 26, 30] S0 S ∧ (∀ j, j ≠ 6 → S 25 j = S0 25 j) ∧ (0 ≤ n1 ∧ n1 ≤ S0 2 1 / 2 * 2 + 1) ∧ noT S0 n0 n1) → (∀ S', keeps [25, 26, 30] S0 S' → (∀ j, j ≠ 6 → S' 25 j = S0 25 j) → noT S0 (n0 + 1) 0 → J E G 91 [(0, .ref (jad G 25)), (1, .int (iI n0))] [] S') → J E G 48 [(0, .ref (jad G 25)), (1, .int (iI (n0))), (2, .int (iI (n1)))] [] S := by
  intro mm
  induction mm using Nat.strongRecOn with | ind mm ih => ?_
  intro n1 S hm hj K
  obtain ⟨k1, k2, hn1, hT⟩ := hj
  have q1 : S 1 = S0 1 := k1 1 (by decide)
  have q2 : S 2 = S0 2 := k1 2 (by decide)
  have q3 : S 3 = S0 3 := k1 3 (by decide)
  have q4 : S 4 = S0 4 := k1 4 (by decide)
  have q31 : S 31 = S0 31 := k1 31 (by decide)
  have hk2 := k1.ok (by decide) hk
  have hd2 := hd.keeps k1 (by decide)
  have l0 := hk.2.1 0 (by omega) (by omega)
  have l1 := hk.2.1 1 (by omega) (by omega)
  have l2 := hk.2.1 2 (by omega) (by omega)
  refine J_aload_n C 0 dX1_seekProof_48 rfl ?_
  refine J_iconst C dX1_seekProof_49 ?_
  refine J_iload_n C 1 dX1_seekProof_50 rfl ?_
  refine J_callV (k := 25) (rest := []) C (c_isTried hG S (0) (n0) (by rw [q31]; have := t0.1; omega) (by omega) (by omega)) kc_X1_isTried kl_X1_93 (by rw [hG.2]; decide) (by rw [hG.1]; rfl) rfl dX1_seekProof_51 rfl rfl (by decide) (Nat.le_of_ble_eq_true rfl) (J_ki (fun v1 S1 h1 => ?_))
  obtain ⟨rfl, rfl⟩ := h1
  refine J_top (b := bb (zbit (S0 31 (0)) (n0))) (by rw [q31]) ?_
  refine J_if_eq_b C 91 dX1_seekProof_54 (by decide) (fun h2 => ?_) (fun h2 => ?_)
  · refine J_lv [0, 1] rfl ?_
    refine K S k1 k2 (fun a b c fa fb fc za zb zc hc => ?_)
    by_cases e : a = n0
    · subst e; first | exact absurd za (by assumption) | exact hT a b c fa fb fc za zb zc (Or.inr ⟨rfl, by have := fb.2; omega⟩)
    · exact hT a b c fa fb fc za zb zc (by omega)
  · refine J_iload_n C 2 dX1_seekProof_57 rfl ?_
    refine J_aload_n C 0 dX1_seekProof_58 rfl ?_
    refine J_iconst C dX1_seekProof_59 ?_
    refine J_callV (k := 25) (rest := [.int (iI (n1))]) C (c_lastF hG S (1) hk2 (by omega)) kc_X1_lastFunction kl_X1_46 (by rw [hG.2]; decide) (by rw [hG.1]; rfl) rfl dX1_seekProof_60 rfl rfl (by decide) (Nat.le_of_ble_eq_true rfl) (J_ki (fun v3 S3 h3 => ?_))
    obtain ⟨rfl, rfl⟩ := h3
    refine J_top (b := S0 2 (1) / 2 * 2) (by rw [q2]) ?_
    refine J_icmp_gt C 91 dX1_seekProof_63 (by decide) (by omega) (by omega) (fun h4 => ?_) (fun h4 => ?_)
    · refine J_lv [0, 1] rfl ?_
      refine K S k1 k2 (fun a b c fa fb fc za zb zc hc => ?_)
      by_cases e : a = n0
      · subst e; first | exact absurd za (by assumption) | exact hT a b c fa fb fc za zb zc (Or.inr ⟨rfl, by have := fb.2; omega⟩)
      · exact hT a b c fa fb fc za zb zc (by omega)
    · refine J_aload_n C 0 dX1_seekProof_66 rfl ?_
      refine J_iconst C dX1_seekProof_67 ?_
      refine J_iload_n C 2 dX1_seekProof_68 rfl ?_
      refine J_callV (k := 25) (rest := []) C (c_isTried hG S (1) (n1) (by rw [q31]; have := t1.1; omega) (by omega) (by omega)) kc_X1_isTried kl_X1_93 (by rw [hG.2]; decide) (by rw [hG.1]; rfl) rfl dX1_seekProof_69 rfl rfl (by decide) (Nat.le_of_ble_eq_true rfl) (J_ki (fun v5 S5 h5 => ?_))
      obtain ⟨rfl, rfl⟩ := h5
      refine J_top (b := bb (zbit (S0 31 (1)) (n1))) (by rw [q31]) ?_
      refine J_if_eq_b C 85 dX1_seekProof_72 (by decide) (fun h6 => ?_) (fun h6 => ?_)
      · refine J_iinc (lv' := [(2, .int (iI (n1 + 1))), (0, .ref (jad G 25)), (1, .int (iI (n0)))]) C 2 dX1_seekProof_85 rfl (by decide) rfl ?_
        refine J_goto C 48 dX1_seekProof_88 (by decide) ?_
        refine J_lv [1, 2, 0] rfl ?_
        refine ih _ (by omega) (n1 + 1) S rfl ⟨k1, k2, by omega, fun a b c fa fb fc za zb zc hc => ?_⟩ K
        by_cases e : a = n0 ∧ b = n1
        · obtain ⟨rfl, rfl⟩ := e; exact absurd zb (by assumption)
        · exact hT a b c fa fb fc za zb zc (by omega)
      · refine J_aload_n C 0 dX1_seekProof_75 rfl ?_
        refine J_iload_n C 1 dX1_seekProof_76 rfl ?_
        refine J_iload_n C 2 dX1_seekProof_77 rfl ?_
        refine J_callV (k := 25) (rest := []) C (c_sol hG S (n0) (n1) hk2 hd2 (by rw [isFn, q2]; omega) (by rw [isFn, q2]; omega) (by rw [q31]; exact t2.1)) kc_X1_seekOnLastAxis kl_X1_96 (by rw [hG.2]; decide) (by rw [hG.1]; rfl) rfl dX1_seekProof_78 rfl rfl (by decide) (Nat.le_of_ble_eq_true rfl) (J_ki (fun v7 S7 h7 => ?_))
        obtain ⟨r1, r2, r3⟩ := h7
        rw [q1, q2, q3, q4, q31] at r3
        simp only [isFn, q2] at r3
        have kk := k1.tr r1
        have kj : ∀ j, j ≠ 6 → S7 25 j = S0 25 j := fun j hj => (r2 j hj).trans (k2 j hj)
        have hv : v7 = 0 ∨ v7 = 1 := by rcases r3 with r3 | r3 <;> omega
        refine J_if_eq C 85 dX1_seekProof_81 (by decide) (by omega) (fun h8 => ?_) (fun h8 => ?_)
        · refine J_iinc (lv' := [(2, .int (iI (n1 + 1))), (0, .ref (jad G 25)), (1, .int (iI (n0)))]) C 2 dX1_seekProof_85 rfl (by decide) rfl ?_
          refine J_goto C 48 dX1_seekProof_88 (by decide) ?_
          refine J_lv [1, 2, 0] rfl ?_
          have r4 := (r3.resolve_right (fun q => by have := q.1; omega)).2
          refine ih _ (by omega) (n1 + 1) S7 rfl ⟨kk, kj, by omega, fun a b c fa fb fc za zb zc hc => ?_⟩ K
          by_cases e : a = n0 ∧ b = n1
          · obtain ⟨rfl, rfl⟩ := e; exact r4 c fc zc
          · exact hT a b c fa fb fc za zb zc (by omega)
        · have r4 := (r3.resolve_left (fun q => by have := q.1; omega)).2
          obtain ⟨k, fk, zk, tk, lk, e0, e1, e2, e3⟩ := r4
          exact J_vret R C dX1_seekProof_84 (jPv.mk (hP _ kk kj (isProof_found hk hd t0 t1 t2 hn0 (by rw [isFn]; omega) fk tk hT lk e0 e1 e2 e3)))
theorem l_sp1 {E : jEnv} {G : jG} (hG : cG G) (C : jX E G cX1_seekProof 3 RX1 5 118) (S0 : jMem) (P : jMem → Prop) (hk : cOK S0) (hd : dOK S0) (t0 : trOK S0 0) (t1 : trOK S0 1) (t2 : trOK S0 2) (hP : ∀ S', keeps [25, 26, 30] S0 S' → (∀ j, j ≠ 6 → S' 25 j = S0 25 j) → isProof (S0 1 4) (S0 2) (S0 3) (S0 4) (S' 26) → P S') (R : jR E G none (jPv P)) : ∀ (mm : Nat) (n0 : Int) (S : jMem), mm = (S0 2 0 / 2 * 2 + 1 - n0).toNat → (keeps [25, 26, 30] S0 S ∧ (∀ j, j ≠ 6 → S 25 j = S0 25 j) ∧ (0 ≤ n0 ∧ n0 ≤ S0 2 0 / 2 * 2 + 1) ∧ noT S0 n0 0) → J E G 37 [(0, .ref (jad G 25)), (1, .int (iI (n0)))] [] S := by
  intro mm
  induction mm using Nat.strongRecOn with | ind mm ih => ?_
  intro n0 S hm hj
  obtain ⟨k1, k2, hn0, hT⟩ := hj
  have q1 : S 1 = S0 1 := k1 1 (by decide)
  have q2 : S 2 = S0 2 := k1 2 (by decide)
  have q3 : S 3 = S0 3 := k1 3 (by decide)
  have q4 : S 4 = S0 4 := k1 4 (by decide)
  have q31 : S 31 = S0 31 := k1 31 (by decide)
  have hk2 := k1.ok (by decide) hk
  have hd2 := hd.keeps k1 (by decide)
  have l0 := hk.2.1 0 (by omega) (by omega)
  have l1 := hk.2.1 1 (by omega) (by omega)
  have l2 := hk.2.1 2 (by omega) (by omega)
  refine J_iload_n C 1 dX1_seekProof_37 rfl ?_
  refine J_aload_n C 0 dX1_seekProof_38 rfl ?_
  refine J_iconst C dX1_seekProof_39 ?_
  refine J_callV (k := 25) (rest := [.int (iI (n0))]) C (c_lastF hG S (0) hk2 (by omega)) kc_X1_lastFunction kl_X1_46 (by rw [hG.2]; decide) (by rw [hG.1]; rfl) rfl dX1_seekProof_40 rfl rfl (by decide) (Nat.le_of_ble_eq_true rfl) (J_ki (fun v1 S1 h1 => ?_))
  obtain ⟨rfl, rfl⟩ := h1
  refine J_top (b := S0 2 (0) / 2 * 2) (by rw [q2]) ?_
  refine J_icmp_gt C 97 dX1_seekProof_43 (by decide) (by omega) (by omega) (fun h2 => ?_) (fun h2 => ?_)
  · refine J_aload_n C 0 dX1_seekProof_97 rfl ?_
    refine J_bipush C dX1_seekProof_98 (by decide) ?_
    refine J_bipush C dX1_seekProof_100 (by decide) ?_
    refine J_bipush C dX1_seekProof_102 (by decide) ?_
    refine J_bipush C dX1_seekProof_104 (by decide) ?_
    refine J_callV (k := 25) (rest := []) C (c_keep hG S (-9) (-9) (-9) (-9)) kc_X1_keep kl_X1_99 (by rw [hG.2]; decide) (by rw [hG.1]; rfl) rfl dX1_seekProof_106 rfl rfl (by decide) (Nat.le_of_ble_eq_true rfl) (J_kv (fun S3 h3 => ?_))
    subst h3
    refine J_vret R C dX1_seekProof_109 (jPv.mk (hP _ ((((k1.up (by decide) _ _).up (by decide) _ _).up (by decide) _ _).up (by decide) _ _) (fun j hj => ?_) (isProof_none hk hd t0 t1 t2 (n0 := n0) (by omega) hT ⟨?_, ?_, ?_, ?_⟩)))
    · rw [up2_k _ _ _ (by decide), up2_k _ _ _ (by decide), up2_k _ _ _ (by decide), up2_k _ _ _ (by decide)]; exact k2 j hj
    · exact rd_a (by omega) (rd_a (by omega) (rd_a (by omega) (rd_e rfl)))
    · exact rd_a (by omega) (rd_a (by omega) (rd_e rfl))
    · exact rd_a (by omega) (rd_e rfl)
    · exact rd_e rfl
  · refine J_iconst C dX1_seekProof_46 ?_
    refine J_istore_n (lv' := [(2, .int (iI (0))), (0, .ref (jad G 25)), (1, .int (iI (n0)))]) C dX1_seekProof_47 (by decide) rfl ?_
    refine J_lv [1, 2, 0] rfl ?_
    refine l_sp2 hG C S0 P hk hd t0 t1 t2 hP n0 (by rw [isFn]; omega) R _ 0 S rfl ⟨k1, k2, by omega, hT⟩ (fun S2 p1 p2 p3 => ?_)
    refine J_iinc (lv' := [(1, .int (iI (n0 + 1))), (0, .ref (jad G 25))]) C 1 dX1_seekProof_91 rfl (by decide) rfl ?_
    refine J_goto C 37 dX1_seekProof_94 (by decide) ?_
    refine J_lv [1, 0] rfl ?_
    exact ih _ (by omega) (n0 + 1) S2 rfl ⟨p1, p2, by omega, p3⟩
theorem c_seekProof {G : jG} (hG : cG G) (S0 : jMem) (hk : cOK S0) (hp : S0 25 8 = 0 ∨ (S0 25 8 = 1 ∧ dOK S0)) (hs : S0 25 9 = 0 ∨ (S0 25 9 = 1 ∧ isProof (S0 1 4) (S0 2) (S0 3) (S0 4) (S0 26))) : jM G yX1_seekProof cX1_seekProof 3 none 5 118 [.ref (jad G 25)] S0 (jPv (fun S' => keeps [25, 26, 27, 28, 29, 30, 31] S0 S' ∧ (S' 25 8 = 0 ∨ (S' 25 8 = 1 ∧ dOK S')) ∧ S' 25 9 = 1 ∧ isProof (S' 1 4) (S' 2) (S' 3) (S' 4) (S' 26))) := by
  refine jM.of (by decide) (Nat.le_of_ble_eq_true rfl) (fun E C R => ?_)
  show J E G 0 [(0, .ref (jad G 25))] [] _
  refine J_aload_n C 0 dX1_seekProof_0 rfl ?_
  refine g_X1_38 hG C dX1_seekProof_1 ?_
  refine J_if_eq C 8 dX1_seekProof_4 (by decide) (by omega) (fun h1 => ?_) (fun h1 => ?_)
  · have kA : keeps [25] S0 (up2 S0 25 9 1) := keeps.rf.up (by decide) _ _
    have hkA := kA.ok (by decide) hk
    refine J_aload_n C 0 dX1_seekProof_8 rfl ?_
    refine J_iconst C dX1_seekProof_9 ?_
    refine p_X1_38 hG C (by first | exact Or.inl rfl | exact Or.inr rfl | omega) dX1_seekProof_10 ?_
    refine J_aload_n C 0 dX1_seekProof_13 rfl ?_
    refine J_callV (k := 25) (rest := []) C (c_prepare hG (up2 S0 25 (9) (1)) hkA (by rcases hp with q | q; exact Or.inl q; exact Or.inr ⟨q.1, q.2.keeps kA (by decide)⟩)) kc_X1_prepare kl_X1_87 (by rw [hG.2]; decide) (by rw [hG.1]; rfl) rfl dX1_seekProof_14 rfl rfl (by decide) (Nat.le_of_ble_eq_true rfl) (J_kv (fun S2 h2 => ?_))
    obtain ⟨dB, kB, jB⟩ := h2
    have hkB := kB.ok (by decide) hkA
    refine J_iconst C dX1_seekProof_17 ?_
    refine J_istore_n (lv' := [(1, .int (iI (0))), (0, .ref (jad G 25))]) C dX1_seekProof_18 (by decide) rfl ?_
    refine J_iload_n C 0 dX1_seekProof_19 rfl ?_
    refine J_iconst C dX1_seekProof_20 ?_
    refine J_icmp_ge C 35 dX1_seekProof_21 (by decide) (by omega) (by omega) (fun h => absurd h (by omega)) (fun _ => ?_)
    refine J_aload_n C 1 dX1_seekProof_24 rfl ?_
    refine J_iload_n C 0 dX1_seekProof_25 rfl ?_
    refine J_callV (k := 25) (rest := []) C (c_idle hG S2 (0) hkB dB (by omega)) kc_X1_leaveOutIdle kl_X1_90 (by rw [hG.2]; decide) (by rw [hG.1]; rfl) rfl dX1_seekProof_26 rfl rfl (by decide) (Nat.le_of_ble_eq_true rfl) (J_kv (fun S4 h4 => ?_))
    obtain ⟨o0, j0, t0⟩ := h4
    have hk0 := o0.ok (by decide) hkB
    have d0 := o0.dok dB
    refine J_iinc (lv' := [(1, .int (iI (1))), (0, .ref (jad G 25))]) C 0 dX1_seekProof_29 rfl (by decide) rfl ?_
    refine J_goto C 19 dX1_seekProof_32 (by decide) ?_
    refine J_iload_n C 0 dX1_seekProof_19 rfl ?_
    refine J_iconst C dX1_seekProof_20 ?_
    refine J_icmp_ge C 35 dX1_seekProof_21 (by decide) (by omega) (by omega) (fun h => absurd h (by omega)) (fun _ => ?_)
    refine J_aload_n C 1 dX1_seekProof_24 rfl ?_
    refine J_iload_n C 0 dX1_seekProof_25 rfl ?_
    refine J_callV (k := 25) (rest := []) C (c_idle hG S4 (1) hk0 d0 (by omega)) kc_X1_leaveOutIdle kl_X1_90 (by rw [hG.2]; decide) (by rw [hG.1]; rfl) rfl dX1_seekProof_26 rfl rfl (by decide) (Nat.le_of_ble_eq_true rfl) (J_kv (fun S6 h6 => ?_))
    obtain ⟨o1, j1, t1⟩ := h6
    have hk1 := o1.ok (by decide) hk0
    have d1 := o1.dok d0
    refine J_iinc (lv' := [(1, .int (iI (2))), (0, .ref (jad G 25))]) C 0 dX1_seekProof_29 rfl (by decide) rfl ?_
    refine J_goto C 19 dX1_seekProof_32 (by decide) ?_
    refine J_iload_n C 0 dX1_seekProof_19 rfl ?_
    refine J_iconst C dX1_seekProof_20 ?_
    refine J_icmp_ge C 35 dX1_seekProof_21 (by decide) (by omega) (by omega) (fun h => absurd h (by omega)) (fun _ => ?_)
    refine J_aload_n C 1 dX1_seekProof_24 rfl ?_
    refine J_iload_n C 0 dX1_seekProof_25 rfl ?_
    refine J_callV (k := 25) (rest := []) C (c_idle hG S6 (2) hk1 d1 (by omega)) kc_X1_leaveOutIdle kl_X1_90 (by rw [hG.2]; decide) (by rw [hG.1]; rfl) rfl dX1_seekProof_26 rfl rfl (by decide) (Nat.le_of_ble_eq_true rfl) (J_kv (fun S8 h8 => ?_))
    obtain ⟨o2, j2, t2⟩ := h8
    have hk2 := o2.ok (by decide) hk1
    have d2 := o2.dok d1
    refine J_iinc (lv' := [(1, .int (iI (3))), (0, .ref (jad G 25))]) C 0 dX1_seekProof_29 rfl (by decide) rfl ?_
    refine J_goto C 19 dX1_seekProof_32 (by decide) ?_
    refine J_iload_n C 0 dX1_seekProof_19 rfl ?_
    refine J_iconst C dX1_seekProof_20 ?_
    refine J_icmp_ge C 35 dX1_seekProof_21 (by decide) (by omega) (by omega) (fun _ => ?_) (fun h => absurd h (by omega))
    refine J_iconst C dX1_seekProof_35 ?_
    refine J_istore_n (lv' := [(1, .int (iI (0))), (0, .ref (jad G 25))]) C dX1_seekProof_36 (by decide) rfl ?_
    refine J_lv [1, 0] rfl ?_
    have hL := hk2.2.1 0 (by omega) (by omega)
    have kC : keeps [25, 26, 27, 28, 29, 30, 31] S0 S8 := (((kA.wide (by decide)).tr (kB.wide (by decide))).on (by decide) o0 |>.on (by decide) o1).on (by decide) o2
    refine l_sp1 hG C S8 _ hk2 d2 (trOK_far (trOK_far t0 o1 j1 (by decide)) o2 j2 (by decide)) (trOK_far t1 o2 j2 (by decide)) t2 (fun S' p1 p2 p3 => ?_) R _ 0 S8 rfl ⟨keeps.rf, fun _ _ => rfl, by omega, fun a b c fa fb fc za zb zc hc => by have := fa.1; have := fb.1; omega⟩
    have e25 : ∀ j, j ≠ 6 → S' 25 j = if j = 8 then 1 else up2 S0 25 9 1 25 j := fun j hj => by rw [p2 j hj, o2 25 (by decide), o1 25 (by decide), o0 25 (by decide), jB j]
    refine ⟨kC.tr (p1.wide (by decide)), Or.inr ⟨by rw [e25 8 (by decide), if_pos rfl], d2.keeps p1 (by decide)⟩, ?_, ?_⟩
    · rw [e25 9 (by decide), if_neg (by decide), up2_eq]
    · rw [p1 1 (by decide), p1 2 (by decide), p1 3 (by decide), p1 4 (by decide)]; exact p3
  · rcases hs with hs | hs
    · omega
    exact J_vret R C dX1_seekProof_7 (jPv.mk ⟨keeps.rf, hp, hs.1, hs.2⟩)
