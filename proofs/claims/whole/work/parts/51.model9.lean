def binM (S : jMem) (x y z : Int) : jMem := up2 (up2 (up2 S 1 0 x) 1 1 y) 1 2 z
theorem binM.ok {S : jMem} {x y z : Int} (h : mOK S) (hx : 1 ≤ x ∧ x ≤ 20) (hy : 1 ≤ y ∧ y ≤ 20) (hz : 1 ≤ z ∧ z ≤ 20) : mOK (binM S x y z) := by
  have e : binM S x y z 1 = fset (fset (fset (S 1) 0 x) 1 y) 2 z := by unfold binM; rw [up2_s, up2_s, up2_s]
  show sOK (S 0 1) (binM S x y z 1) (S 2) (S 4) (S 3)
  rw [e]; exact sOK.bin h hx hy hz
def boxM (S : jMem) (x y z : Int) : jMem := up2 (up2 (up2 (up2 (up2 (up2 S 2 (3 * S 0 1) x) 2 (3 * S 0 1 + 1) y) 2 (3 * S 0 1 + 2) z) 3 (S 0 1) 1) 0 1 (S 0 1 + 1)) 4 (S 0 1) 1
theorem boxM.n (S : jMem) (x y z : Int) : boxM S x y z 0 1 = S 0 1 + 1 := by
  unfold boxM; rw [up2_k _ _ _ (by decide), up2_eq]
theorem boxM.c2 (S : jMem) (x y z : Int) : boxM S x y z 2 = fset (fset (fset (S 2) (3 * S 0 1) x) (3 * S 0 1 + 1) y) (3 * S 0 1 + 2) z := by
  unfold boxM; rw [up2_k _ _ _ (by decide), up2_k _ _ _ (by decide), up2_k _ _ _ (by decide), up2_s, up2_s, up2_s]
theorem boxM.c3 (S : jMem) (x y z : Int) : boxM S x y z 3 = fset (S 3) (S 0 1) 1 := by
  unfold boxM; rw [up2_k _ _ _ (by decide), up2_k _ _ _ (by decide), up2_s, up2_k _ _ _ (by decide), up2_k _ _ _ (by decide), up2_k _ _ _ (by decide)]
theorem boxM.c4 (S : jMem) (x y z : Int) : boxM S x y z 4 = fset (S 4) (S 0 1) 1 := by
  unfold boxM; rw [up2_s, up2_k _ _ _ (by decide), up2_k _ _ _ (by decide), up2_k _ _ _ (by decide), up2_k _ _ _ (by decide), up2_k _ _ _ (by decide)]
theorem boxM.ok {S : jMem} {x y z : Int} (h : mOK S) (hn : S 0 1 < 8) (hx : 1 ≤ x ∧ x ≤ 20) (hy : 1 ≤ y ∧ y ≤ 20) (hz : 1 ≤ z ∧ z ≤ 20) : mOK (boxM S x y z) := by
  show sOK (boxM S x y z 0 1) (S 1) (boxM S x y z 2) (boxM S x y z 4) (boxM S x y z 3)
  rw [boxM.n, boxM.c2, boxM.c3, boxM.c4]; exact sOK.box h hn hx hy hz
theorem turnM.ok {S : jMem} {b x : Int} (h : mOK S) (hx : 1 ≤ x ∧ x ≤ 63) : mOK (up2 S 4 b x) := by
  show sOK (S 0 1) (S 1) (S 2) (up2 S 4 b x 4) (S 3)
  rw [up2_s]; exact sOK.turn h hx
theorem wtM.ok {S : jMem} {b x : Int} (h : mOK S) (hx : 0 ≤ x ∧ x ≤ 1000) : mOK (up2 S 3 b x) := by
  show sOK (S 0 1) (S 1) (S 2) (S 4) (up2 S 3 b x 3)
  rw [up2_s]; exact sOK.wts h hx
theorem noM.ok {S : jMem} (h : mOK S) : mOK (up2 S 0 1 0) := by
  show sOK (up2 S 0 1 0 0 1) (S 1) (S 2) (S 4) (S 3)
  rw [up2_eq]; exact sOK.none h
theorem m_bin {G : jG} (hG : mG G) (S : jMem) (x y z : Int) (hk : mOK S) (hx : inR x) (hy : inR y) (hz : inR z) : jM G yX6_bin cX6_bin 4 (some .int) 4 96 [.ref (jad G 0), .int (iI (x)), .int (iI (y)), .int (iI (z))] S (jPi (fun v S' => if (1 ≤ x ∧ x ≤ 20) ∧ (1 ≤ y ∧ y ≤ 20) ∧ (1 ≤ z ∧ z ≤ 20) then v = 0 ∧ mAnew (binM S x y z) S' else v = -1 ∧ S' = S)) := by
  refine jM.of (by decide) (Nat.le_of_ble_eq_true rfl) (fun E C R => ?_)
  show J E G 0 [(0, .ref (jad G 0)), (1, .int (iI (x))), (2, .int (iI (y))), (3, .int (iI (z)))] [] _
  refine J_iload_n C 1 dX6_bin_0 rfl ?_
  refine J_callS (rest := []) C (m_isSide hG S (x) (by omega)) kc_X6_isSide kl_X6_148 dX6_bin_1 rfl rfl (by decide) (Nat.le_of_ble_eq_true rfl) (J_ki (fun v1 S1 h1 => ?_))
  obtain ⟨rfl, rfl⟩ := h1
  refine J_if_eq_b C 21 dX6_bin_4 (by decide) (fun h2 => ?_) (fun h2 => ?_)
  · refine J_iconst C dX6_bin_21 ?_
    exact J_iret R C dX6_bin_22 (jPi.mk (by rw [if_neg (by omega)]; exact ⟨rfl, rfl⟩))
  · refine J_iload_n C 2 dX6_bin_7 rfl ?_
    refine J_callS (rest := []) C (m_isSide hG S (y) (by omega)) kc_X6_isSide kl_X6_148 dX6_bin_8 rfl rfl (by decide) (Nat.le_of_ble_eq_true rfl) (J_ki (fun v3 S3 h3 => ?_))
    obtain ⟨rfl, rfl⟩ := h3
    refine J_if_eq_b C 21 dX6_bin_11 (by decide) (fun h4 => ?_) (fun h4 => ?_)
    · refine J_iconst C dX6_bin_21 ?_
      exact J_iret R C dX6_bin_22 (jPi.mk (by rw [if_neg (by omega)]; exact ⟨rfl, rfl⟩))
    · refine J_iload_n C 3 dX6_bin_14 rfl ?_
      refine J_callS (rest := []) C (m_isSide hG S (z) (by omega)) kc_X6_isSide kl_X6_148 dX6_bin_15 rfl rfl (by decide) (Nat.le_of_ble_eq_true rfl) (J_ki (fun v5 S5 h5 => ?_))
      obtain ⟨rfl, rfl⟩ := h5
      refine J_if_ne_b C 23 dX6_bin_18 (by decide) (fun h6 => ?_) (fun h6 => ?_)
      · refine J_aload_n C 0 dX6_bin_23 rfl ?_
        refine g_X6_7 hG C dX6_bin_24 ?_
        refine J_iconst C dX6_bin_27 ?_
        refine J_iload_n C 1 dX6_bin_28 rfl ?_
        refine mast hG C 1 3 (by decide) dX6_bin_29 (by omega) (by omega) ?_
        refine J_aload_n C 0 dX6_bin_30 rfl ?_
        refine g_X6_7 hG C dX6_bin_31 ?_
        refine J_iconst C dX6_bin_34 ?_
        refine J_iload_n C 2 dX6_bin_35 rfl ?_
        refine mast hG C 1 3 (by decide) dX6_bin_36 (by omega) (by omega) ?_
        refine J_aload_n C 0 dX6_bin_37 rfl ?_
        refine g_X6_7 hG C dX6_bin_38 ?_
        refine J_iconst C dX6_bin_41 ?_
        refine J_iload_n C 3 dX6_bin_42 rfl ?_
        refine mast hG C 1 3 (by decide) dX6_bin_43 (by omega) (by omega) ?_
        refine J_aload_n C 0 dX6_bin_44 rfl ?_
        refine J_callV (k := 0) (rest := []) C (m_anew hG (up2 (up2 (up2 S 1 (0) (x)) 1 (1) (y)) 1 (2) (z)) (binM.ok hk (by omega) (by omega) (by omega))) kc_X6_anew kl_X6_74 (by rw [hG.2]; decide) (by rw [hG.1]; rfl) rfl dX6_bin_45 rfl rfl (by decide) (Nat.le_of_ble_eq_true rfl) (J_kv (fun S7 h7 => ?_))
        have hA := h7
        refine J_iconst C dX6_bin_48 ?_
        exact J_iret R C dX6_bin_49 (jPi.mk (by rw [if_pos (by omega)]; exact ⟨rfl, hA⟩))
      · refine J_iconst C dX6_bin_21 ?_
        exact J_iret R C dX6_bin_22 (jPi.mk (by rw [if_neg (by omega)]; exact ⟨rfl, rfl⟩))
theorem m_box {G : jG} (hG : mG G) (S : jMem) (x y z : Int) (hk : mOK S) (hx : inR x) (hy : inR y) (hz : inR z) : jM G yX6_box cX6_box 4 (some .int) 4 96 [.ref (jad G 0), .int (iI (x)), .int (iI (y)), .int (iI (z))] S (jPi (fun v S' => if (1 ≤ x ∧ x ≤ 20) ∧ (1 ≤ y ∧ y ≤ 20) ∧ (1 ≤ z ∧ z ≤ 20) then (if S 0 1 = 8 then v = -3 ∧ S' = S else v = S 0 1 ∧ mAnew (boxM S x y z) S') else v = -1 ∧ S' = S)) := by
  refine jM.of (by decide) (Nat.le_of_ble_eq_true rfl) (fun E C R => ?_)
  show J E G 0 [(0, .ref (jad G 0)), (1, .int (iI (x))), (2, .int (iI (y))), (3, .int (iI (z)))] [] _
  have hn := hk.1
  refine J_iload_n C 1 dX6_box_0 rfl ?_
  refine J_callS (rest := []) C (m_isSide hG S (x) (by omega)) kc_X6_isSide kl_X6_148 dX6_box_1 rfl rfl (by decide) (Nat.le_of_ble_eq_true rfl) (J_ki (fun v1 S1 h1 => ?_))
  obtain ⟨rfl, rfl⟩ := h1
  refine J_if_eq_b C 21 dX6_box_4 (by decide) (fun h2 => ?_) (fun h2 => ?_)
  · refine J_iconst C dX6_box_21 ?_
    exact J_iret R C dX6_box_22 (jPi.mk (by rw [if_neg (by omega)]; exact ⟨rfl, rfl⟩))
  · refine J_iload_n C 2 dX6_box_7 rfl ?_
    refine J_callS (rest := []) C (m_isSide hG S (y) (by omega)) kc_X6_isSide kl_X6_148 dX6_box_8 rfl rfl (by decide) (Nat.le_of_ble_eq_true rfl) (J_ki (fun v3 S3 h3 => ?_))
    obtain ⟨rfl, rfl⟩ := h3
    refine J_if_eq_b C 21 dX6_box_11 (by decide) (fun h4 => ?_) (fun h4 => ?_)
    · refine J_iconst C dX6_box_21 ?_
      exact J_iret R C dX6_box_22 (jPi.mk (by rw [if_neg (by omega)]; exact ⟨rfl, rfl⟩))
    · refine J_iload_n C 3 dX6_box_14 rfl ?_
      refine J_callS (rest := []) C (m_isSide hG S (z) (by omega)) kc_X6_isSide kl_X6_148 dX6_box_15 rfl rfl (by decide) (Nat.le_of_ble_eq_true rfl) (J_ki (fun v5 S5 h5 => ?_))
      obtain ⟨rfl, rfl⟩ := h5
      refine J_if_ne_b C 23 dX6_box_18 (by decide) (fun h6 => ?_) (fun h6 => ?_)
      · refine J_aload_n C 0 dX6_box_23 rfl ?_
        refine g_X6_81 hG C dX6_box_24 ?_
        refine J_bipush C dX6_box_27 (by decide) ?_
        refine J_icmp_ne C 35 dX6_box_29 (by decide) (by omega) (by omega) (fun h7 => ?_) (fun h7 => ?_)
        · refine J_aload_n C 0 dX6_box_35 rfl ?_
          refine g_X6_13 hG C dX6_box_36 ?_
          refine J_iconst C dX6_box_39 ?_
          refine J_aload_n C 0 dX6_box_40 rfl ?_
          refine g_X6_81 hG C dX6_box_41 ?_
          refine J_imul C dX6_box_44 ?_
          refine J_iload_n C 1 dX6_box_45 rfl ?_
          refine mast hG C 2 24 (by decide) dX6_box_46 (by omega) (by omega) ?_
          refine J_aload_n C 0 dX6_box_47 rfl ?_
          refine g_X6_13 hG C dX6_box_48 ?_
          refine J_iconst C dX6_box_51 ?_
          refine J_aload_n C 0 dX6_box_52 rfl ?_
          refine g_X6_81 hG C dX6_box_53 ?_
          refine J_top (b := S 0 1) (rd_k (by decide) (rfl)) ?_
          refine J_imul C dX6_box_56 ?_
          refine J_iconst C dX6_box_57 ?_
          refine J_iadd C dX6_box_58 ?_
          refine J_iload_n C 2 dX6_box_59 rfl ?_
          refine mast hG C 2 24 (by decide) dX6_box_60 (by omega) (by omega) ?_
          refine J_aload_n C 0 dX6_box_61 rfl ?_
          refine g_X6_13 hG C dX6_box_62 ?_
          refine J_iconst C dX6_box_65 ?_
          refine J_aload_n C 0 dX6_box_66 rfl ?_
          refine g_X6_81 hG C dX6_box_67 ?_
          refine J_top (b := S 0 1) (rd_k (by decide) (rd_k (by decide) (rfl))) ?_
          refine J_imul C dX6_box_70 ?_
          refine J_iconst C dX6_box_71 ?_
          refine J_iadd C dX6_box_72 ?_
          refine J_iload_n C 3 dX6_box_73 rfl ?_
          refine mast hG C 2 24 (by decide) dX6_box_74 (by omega) (by omega) ?_
          refine J_aload_n C 0 dX6_box_75 rfl ?_
          refine g_X6_16 hG C dX6_box_76 ?_
          refine J_aload_n C 0 dX6_box_79 rfl ?_
          refine g_X6_81 hG C dX6_box_80 ?_
          refine J_top (b := S 0 1) (rd_k (by decide) (rd_k (by decide) (rd_k (by decide) (rfl)))) ?_
          refine J_iconst C dX6_box_83 ?_
          refine mast hG C 3 8 (by decide) dX6_box_84 (by omega) (by omega) ?_
          refine J_aload_n C 0 dX6_box_85 rfl ?_
          refine g_X6_19 hG C dX6_box_86 ?_
          refine J_aload_n C 0 dX6_box_89 rfl ?_
          refine J_dup C dX6_box_90 rfl ?_
          refine g_X6_81 hG C dX6_box_91 ?_
          refine J_top (b := S 0 1) (rd_k (by decide) (rd_k (by decide) (rd_k (by decide) (rd_k (by decide) (rfl))))) ?_
          refine J_dup_x1 C dX6_box_94 rfl rfl ?_
          refine J_iconst C dX6_box_95 ?_
          refine J_iadd C dX6_box_96 ?_
          refine p_X6_81 hG C dX6_box_97 ?_
          refine J_iconst C dX6_box_100 ?_
          refine mast hG C 4 8 (by decide) dX6_box_101 (by omega) (by omega) ?_
          refine J_aload_n C 0 dX6_box_102 rfl ?_
          refine J_callV (k := 0) (rest := []) C (m_anew hG (up2 (up2 (up2 (up2 (up2 (up2 S 2 ((3) * (S 0 1)) (x)) 2 (((3) * (S 0 1)) + (1)) (y)) 2 (((3) * (S 0 1)) + (2)) (z)) 3 (S 0 1) (1)) 0 (1) ((S 0 1) + (1))) 4 (S 0 1) (1)) (boxM.ok hk (by omega) (by omega) (by omega) (by omega))) kc_X6_anew kl_X6_74 (by rw [hG.2]; decide) (by rw [hG.1]; rfl) rfl dX6_box_103 rfl rfl (by decide) (Nat.le_of_ble_eq_true rfl) (J_kv (fun S8 h8 => ?_))
          have hA := h8
          refine J_aload_n C 0 dX6_box_106 rfl ?_
          refine g_X6_81 hG C dX6_box_107 ?_
          refine J_iconst C dX6_box_110 ?_
          refine J_isub C dX6_box_111 ?_
          exact J_iret R C dX6_box_112 (jPi.mk (by rw [if_pos (by omega), if_neg (by omega)]; refine ⟨?_, hA⟩; have e := hA.2.2.1.1.trans (boxM.n S x y z); omega))
        · refine J_bipush C dX6_box_32 (by decide) ?_
          exact J_iret R C dX6_box_34 (jPi.mk (by rw [if_pos (by omega), if_pos (by omega)]; exact ⟨rfl, rfl⟩))
      · refine J_iconst C dX6_box_21 ?_
        exact J_iret R C dX6_box_22 (jPi.mk (by rw [if_neg (by omega)]; exact ⟨rfl, rfl⟩))
theorem m_turns {G : jG} (hG : mG G) (S : jMem) (b x : Int) (hk : mOK S) (hb : inR b) (hx : inR x) : jM G yX6_turns cX6_turns 4 (some .int) 4 96 [.ref (jad G 0), .int (iI (b)), .int (iI (x))] S (jPi (fun v S' => if (0 ≤ b ∧ b < S 0 1) ∧ (1 ≤ x ∧ x ≤ 63) then v = S 4 b ∧ mAnew (up2 S 4 b x) S' else v = -1 ∧ S' = S)) := by
  refine jM.of (by decide) (Nat.le_of_ble_eq_true rfl) (fun E C R => ?_)
  show J E G 0 [(0, .ref (jad G 0)), (1, .int (iI (b))), (2, .int (iI (x)))] [] _
  have hn := hk.1
  refine J_aload_n C 0 dX6_turns_0 rfl ?_
  refine J_iload_n C 1 dX6_turns_1 rfl ?_
  refine J_callV (k := 0) (rest := []) C (m_isBox hG S (b) (by omega) (by omega)) kc_X6_isBox kl_X6_151 (by rw [hG.2]; decide) (by rw [hG.1]; rfl) rfl dX6_turns_2 rfl rfl (by decide) (Nat.le_of_ble_eq_true rfl) (J_ki (fun v1 S1 h1 => ?_))
  obtain ⟨rfl, rfl⟩ := h1
  refine J_if_eq_b C 19 dX6_turns_5 (by decide) (fun h2 => ?_) (fun h2 => ?_)
  · refine J_iconst C dX6_turns_19 ?_
    exact J_iret R C dX6_turns_20 (jPi.mk (by rw [if_neg (by omega)]; exact ⟨rfl, rfl⟩))
  · refine J_iload_n C 2 dX6_turns_8 rfl ?_
    refine J_iconst C dX6_turns_9 ?_
    refine J_icmp_lt C 19 dX6_turns_10 (by decide) (by omega) (by omega) (fun h3 => ?_) (fun h3 => ?_)
    · refine J_iconst C dX6_turns_19 ?_
      exact J_iret R C dX6_turns_20 (jPi.mk (by rw [if_neg (by omega)]; exact ⟨rfl, rfl⟩))
    · refine J_iload_n C 2 dX6_turns_13 rfl ?_
      refine J_bipush C dX6_turns_14 (by decide) ?_
      refine J_icmp_le C 21 dX6_turns_16 (by decide) (by omega) (by omega) (fun h4 => ?_) (fun h4 => ?_)
      · refine J_aload_n C 0 dX6_turns_21 rfl ?_
        refine g_X6_19 hG C dX6_turns_22 ?_
        refine J_iload_n C 1 dX6_turns_25 rfl ?_
        refine mald hG C 4 8 (by decide) dX6_turns_26 (by omega) (by omega) ?_
        refine J_istore_n (lv' := [(3, .int (iI (S 4 (b)))), (0, .ref (jad G 0)), (1, .int (iI (b))), (2, .int (iI (x)))]) C dX6_turns_27 (by decide) rfl ?_
        refine J_aload_n C 1 dX6_turns_28 rfl ?_
        refine g_X6_19 hG C dX6_turns_29 ?_
        refine J_iload_n C 2 dX6_turns_32 rfl ?_
        refine J_iload_n C 3 dX6_turns_33 rfl ?_
        refine mast hG C 4 8 (by decide) dX6_turns_34 (by omega) (by omega) ?_
        refine J_aload_n C 1 dX6_turns_35 rfl ?_
        refine J_callV (k := 0) (rest := []) C (m_anew hG (up2 S 4 (b) (x)) (turnM.ok hk (by omega))) kc_X6_anew kl_X6_74 (by rw [hG.2]; decide) (by rw [hG.1]; rfl) rfl dX6_turns_36 rfl rfl (by decide) (Nat.le_of_ble_eq_true rfl) (J_kv (fun S5 h5 => ?_))
        have hA := h5
        refine J_iload_n C 0 dX6_turns_39 rfl ?_
        exact J_iret R C dX6_turns_40 (jPi.mk (by rw [if_pos (by omega)]; exact ⟨rfl, hA⟩))
      · refine J_iconst C dX6_turns_19 ?_
        exact J_iret R C dX6_turns_20 (jPi.mk (by rw [if_neg (by omega)]; exact ⟨rfl, rfl⟩))
theorem m_clear {G : jG} (hG : mG G) (S : jMem) (hk : mOK S) : jM G yX6_clear cX6_clear 2 (some .int) 4 96 [.ref (jad G 0)] S (jPi (fun v S' => v = S 0 1 ∧ mAnew (up2 S 0 1 0) S')) := by
  refine jM.of (by decide) (Nat.le_of_ble_eq_true rfl) (fun E C R => ?_)
  show J E G 0 [(0, .ref (jad G 0))] [] _
  have hn := hk.1
  refine J_aload_n C 0 dX6_clear_0 rfl ?_
  refine g_X6_81 hG C dX6_clear_1 ?_
  refine J_istore_n (lv' := [(1, .int (iI (S 0 1))), (0, .ref (jad G 0))]) C dX6_clear_4 (by decide) rfl ?_
  refine J_aload_n C 1 dX6_clear_5 rfl ?_
  refine J_iconst C dX6_clear_6 ?_
  refine p_X6_81 hG C dX6_clear_7 ?_
  refine J_aload_n C 1 dX6_clear_10 rfl ?_
  refine J_callV (k := 0) (rest := []) C (m_anew hG (up2 S 0 (1) (0)) (noM.ok hk)) kc_X6_anew kl_X6_74 (by rw [hG.2]; decide) (by rw [hG.1]; rfl) rfl dX6_clear_11 rfl rfl (by decide) (Nat.le_of_ble_eq_true rfl) (J_kv (fun S1 h1 => ?_))
  have hA := h1
  refine J_iload_n C 0 dX6_clear_14 rfl ?_
  exact J_iret R C dX6_clear_15 (jPi.mk ⟨rfl, hA⟩)
theorem cn_lt {P : Int → Prop} {k X v : Int} (hX : isNth P k X) (hv : 0 ≤ v ∧ v ≤ X) (h : 0 < k - pcnt P v ∨ ¬ P v) : v < X := by
  rcases Int.lt_or_le v X with c | c
  · exact c
  · have e : v = X := by omega
    subst e
    rcases h with h | h
    · have := hX.2.2; omega
    · exact absurd hX.2.1 h
theorem cn_eq {P : Int → Prop} {k X v : Int} (hX : isNth P k X) (hv : 0 ≤ v ∧ v ≤ X) (h : ¬ 0 < k - pcnt P v) (hp : P v) : X = v := by
  rcases Int.lt_or_le v X with c | c
  · have h1 := pcnt_mono P (show v + 1 ≤ X by omega)
    rw [pcnt_s P hv.1, bb_t hp] at h1
    have := hX.2.2; omega
  · omega
theorem cn_in {P : Int → Prop} {k X v : Int} (hX : isNth P k X) (hv : 0 ≤ v ∧ v ≤ X) : 0 ≤ k - pcnt P v ∧ k - pcnt P v ≤ X := by
  have h1 := pcnt_mono P hv.2
  have h2 := pcnt_nn P v
  have h3 := pcnt_nn P X
  have h4 := hX.2.2
  have h5 := hX.1
  omega
theorem lm_coord {E : jEnv} {G : jG} (hG : mG G) (C : jX E G cX6_coordinate 6 RX6 1 23) (S : jMem) (b a k X : Int) (hk : mOK S) (hs : mS S) (hb : 0 ≤ b ∧ b < S 0 1) (ha : 0 ≤ a ∧ a < 3) (hX : isNth (pC (S 0 1) (S 2) (S 4) b a) k X) (hX2 : X < 142) (R : jR E G (some .int) (jPi (fun v S' => X = v ∧ S = S'))) : ∀ (mm : Nat) (v : Int), mm = (X - v).toNat → (0 ≤ v ∧ v ≤ X) → J E G 6 [(0, .ref (jad G 0)), (1, .int (iI (b))), (2, .int (iI (a))), (4, .int (iI (v))), (5, .int (iI (k - pcnt (pC (S 0 1) (S 2) (S 4) b a) v)))] [] S := by
  intro mm
  induction mm using Nat.strongRecOn with | ind mm ih => ?_
  intro v hm hv
  have hn := hk.1
  have hc := cn_in hX hv
  refine J_iload C 4 dX6_coordinate_6 rfl ?_
  refine J_if_gt C 22 dX6_coordinate_8 (by decide) (by omega) (fun h1 => ?_) (fun h1 => ?_)
  · refine J_iload C 4 dX6_coordinate_22 rfl ?_
    refine J_aload_n C 0 dX6_coordinate_24 rfl ?_
    refine J_iload_n C 1 dX6_coordinate_25 rfl ?_
    refine J_iload_n C 2 dX6_coordinate_26 rfl ?_
    refine J_iload C 3 dX6_coordinate_27 rfl ?_
    refine J_callV (k := 0) (rest := [.int (iI (k - pcnt (pC (S 0 1) (S 2) (S 4) b a) v))]) C (m_isSum hG S (b) (a) (v) (by omega) (by omega) (by omega) (by rw [hs.2.1 b a v (by omega) (by omega) (by omega) (by omega) (by omega) (by omega)]; exact bb_or _)) kc_X6_isSum kl_X6_124 (by rw [hG.2]; decide) (by rw [hG.1]; rfl) rfl dX6_coordinate_29 rfl rfl (by decide) (Nat.le_of_ble_eq_true rfl) (J_ki (fun v2 S2 h2 => ?_))
    obtain ⟨rfl, rfl⟩ := h2
    refine J_top (b := bb ((pC (S 0 1) (S 2) (S 4) b a) v)) (hs.2.1 b a v (by omega) (by omega) (by omega) (by omega) (by omega) (by omega)) ?_
    refine J_if_eq_b C 39 dX6_coordinate_32 (by decide) (fun h3 => ?_) (fun h3 => ?_)
    · refine J_iconst C dX6_coordinate_39 ?_
      refine J_isub C dX6_coordinate_40 ?_
      refine J_istore (lv' := [(5, .int (iI ((k - pcnt (pC (S 0 1) (S 2) (S 4) b a) v) - (0)))), (0, .ref (jad G 0)), (1, .int (iI (b))), (2, .int (iI (a))), (4, .int (iI (v)))]) C dX6_coordinate_41 (by decide) rfl ?_
      refine J_iinc (lv' := [(4, .int (iI (v + 1))), (5, .int (iI ((k - pcnt (pC (S 0 1) (S 2) (S 4) b a) v) - (0)))), (0, .ref (jad G 0)), (1, .int (iI (b))), (2, .int (iI (a)))]) C 4 dX6_coordinate_43 rfl (by decide) rfl ?_
      refine J_goto C 6 dX6_coordinate_46 (by decide) ?_
      have e := pcnt_s (pC (S 0 1) (S 2) (S 4) b a) hv.1
      rw [bb_f (by assumption)] at e
      have hlt : v < X := cn_lt hX hv (by first | exact Or.inl (by omega) | exact Or.inr (by assumption))
      refine J_lv [2, 3, 4, 0, 1] rfl ?_
      rw [show (k - pcnt (pC (S 0 1) (S 2) (S 4) b a) v) - (0) = k - pcnt (pC (S 0 1) (S 2) (S 4) b a) (v + 1) by omega]
      exact ih _ (by omega) (v + 1) rfl (by omega)
    · refine J_iconst C dX6_coordinate_35 ?_
      refine J_goto C 40 dX6_coordinate_36 (by decide) ?_
      refine J_isub C dX6_coordinate_40 ?_
      refine J_istore (lv' := [(5, .int (iI ((k - pcnt (pC (S 0 1) (S 2) (S 4) b a) v) - (1)))), (0, .ref (jad G 0)), (1, .int (iI (b))), (2, .int (iI (a))), (4, .int (iI (v)))]) C dX6_coordinate_41 (by decide) rfl ?_
      refine J_iinc (lv' := [(4, .int (iI (v + 1))), (5, .int (iI ((k - pcnt (pC (S 0 1) (S 2) (S 4) b a) v) - (1)))), (0, .ref (jad G 0)), (1, .int (iI (b))), (2, .int (iI (a)))]) C 4 dX6_coordinate_43 rfl (by decide) rfl ?_
      refine J_goto C 6 dX6_coordinate_46 (by decide) ?_
      have e := pcnt_s (pC (S 0 1) (S 2) (S 4) b a) hv.1
      rw [bb_t (by assumption)] at e
      have hlt : v < X := cn_lt hX hv (by first | exact Or.inl (by omega) | exact Or.inr (by assumption))
      refine J_lv [2, 3, 4, 0, 1] rfl ?_
      rw [show (k - pcnt (pC (S 0 1) (S 2) (S 4) b a) v) - (1) = k - pcnt (pC (S 0 1) (S 2) (S 4) b a) (v + 1) by omega]
      exact ih _ (by omega) (v + 1) rfl (by omega)
  · refine J_aload_n C 0 dX6_coordinate_11 rfl ?_
    refine J_iload_n C 1 dX6_coordinate_12 rfl ?_
    refine J_iload_n C 2 dX6_coordinate_13 rfl ?_
    refine J_iload C 3 dX6_coordinate_14 rfl ?_
    refine J_callV (k := 0) (rest := []) C (m_isSum hG S (b) (a) (v) (by omega) (by omega) (by omega) (by rw [hs.2.1 b a v (by omega) (by omega) (by omega) (by omega) (by omega) (by omega)]; exact bb_or _)) kc_X6_isSum kl_X6_124 (by rw [hG.2]; decide) (by rw [hG.1]; rfl) rfl dX6_coordinate_16 rfl rfl (by decide) (Nat.le_of_ble_eq_true rfl) (J_ki (fun v4 S4 h4 => ?_))
    obtain ⟨rfl, rfl⟩ := h4
    refine J_top (b := bb ((pC (S 0 1) (S 2) (S 4) b a) v)) (hs.2.1 b a v (by omega) (by omega) (by omega) (by omega) (by omega) (by omega)) ?_
    refine J_if_ne_b C 49 dX6_coordinate_19 (by decide) (fun h5 => ?_) (fun h5 => ?_)
    · refine J_iload C 3 dX6_coordinate_49 rfl ?_
      exact J_iret R C dX6_coordinate_51 (jPi.mk ⟨by exact cn_eq hX hv (by omega) (by assumption), rfl⟩)
    · refine J_iload C 4 dX6_coordinate_22 rfl ?_
      refine J_aload_n C 0 dX6_coordinate_24 rfl ?_
      refine J_iload_n C 1 dX6_coordinate_25 rfl ?_
      refine J_iload_n C 2 dX6_coordinate_26 rfl ?_
      refine J_iload C 3 dX6_coordinate_27 rfl ?_
      refine J_callV (k := 0) (rest := [.int (iI (k - pcnt (pC (S 0 1) (S 2) (S 4) b a) v))]) C (m_isSum hG S (b) (a) (v) (by omega) (by omega) (by omega) (by rw [hs.2.1 b a v (by omega) (by omega) (by omega) (by omega) (by omega) (by omega)]; exact bb_or _)) kc_X6_isSum kl_X6_124 (by rw [hG.2]; decide) (by rw [hG.1]; rfl) rfl dX6_coordinate_29 rfl rfl (by decide) (Nat.le_of_ble_eq_true rfl) (J_ki (fun v6 S6 h6 => ?_))
      obtain ⟨rfl, rfl⟩ := h6
      refine J_top (b := bb ((pC (S 0 1) (S 2) (S 4) b a) v)) (hs.2.1 b a v (by omega) (by omega) (by omega) (by omega) (by omega) (by omega)) ?_
      refine J_if_eq_b C 39 dX6_coordinate_32 (by decide) (fun h7 => ?_) (fun h7 => ?_)
      · refine J_iconst C dX6_coordinate_39 ?_
        refine J_isub C dX6_coordinate_40 ?_
        refine J_istore (lv' := [(5, .int (iI ((k - pcnt (pC (S 0 1) (S 2) (S 4) b a) v) - (0)))), (0, .ref (jad G 0)), (1, .int (iI (b))), (2, .int (iI (a))), (4, .int (iI (v)))]) C dX6_coordinate_41 (by decide) rfl ?_
        refine J_iinc (lv' := [(4, .int (iI (v + 1))), (5, .int (iI ((k - pcnt (pC (S 0 1) (S 2) (S 4) b a) v) - (0)))), (0, .ref (jad G 0)), (1, .int (iI (b))), (2, .int (iI (a)))]) C 4 dX6_coordinate_43 rfl (by decide) rfl ?_
        refine J_goto C 6 dX6_coordinate_46 (by decide) ?_
        have e := pcnt_s (pC (S 0 1) (S 2) (S 4) b a) hv.1
        rw [bb_f (by assumption)] at e
        have hlt : v < X := cn_lt hX hv (by first | exact Or.inl (by omega) | exact Or.inr (by assumption))
        refine J_lv [2, 3, 4, 0, 1] rfl ?_
        rw [show (k - pcnt (pC (S 0 1) (S 2) (S 4) b a) v) - (0) = k - pcnt (pC (S 0 1) (S 2) (S 4) b a) (v + 1) by omega]
        exact ih _ (by omega) (v + 1) rfl (by omega)
      · refine J_iconst C dX6_coordinate_35 ?_
        refine J_goto C 40 dX6_coordinate_36 (by decide) ?_
        refine J_isub C dX6_coordinate_40 ?_
        refine J_istore (lv' := [(5, .int (iI ((k - pcnt (pC (S 0 1) (S 2) (S 4) b a) v) - (1)))), (0, .ref (jad G 0)), (1, .int (iI (b))), (2, .int (iI (a))), (4, .int (iI (v)))]) C dX6_coordinate_41 (by decide) rfl ?_
        refine J_iinc (lv' := [(4, .int (iI (v + 1))), (5, .int (iI ((k - pcnt (pC (S 0 1) (S 2) (S 4) b a) v) - (1)))), (0, .ref (jad G 0)), (1, .int (iI (b))), (2, .int (iI (a)))]) C 4 dX6_coordinate_43 rfl (by decide) rfl ?_
        refine J_goto C 6 dX6_coordinate_46 (by decide) ?_
        have e := pcnt_s (pC (S 0 1) (S 2) (S 4) b a) hv.1
        rw [bb_t (by assumption)] at e
        have hlt : v < X := cn_lt hX hv (by first | exact Or.inl (by omega) | exact Or.inr (by assumption))
        refine J_lv [2, 3, 4, 0, 1] rfl ?_
        rw [show (k - pcnt (pC (S 0 1) (S 2) (S 4) b a) v) - (1) = k - pcnt (pC (S 0 1) (S 2) (S 4) b a) (v + 1) by omega]
        exact ih _ (by omega) (v + 1) rfl (by omega)
theorem m_coord {G : jG} (hG : mG G) (S : jMem) (b a k X : Int) (hk : mOK S) (hs : mS S) (hb : 0 ≤ b ∧ b < S 0 1) (ha : 0 ≤ a ∧ a < 3) (hX : isNth (pC (S 0 1) (S 2) (S 4) b a) k X) (hX2 : X < 142) : jM G yX6_coordinate cX6_coordinate 6 (some .int) 1 23 [.ref (jad G 0), .int (iI (b)), .int (iI (a)), .int (iI (k))] S (jPi (fun v S' => X = v ∧ S = S')) := by
  refine jM.of (by decide) (Nat.le_of_ble_eq_true rfl) (fun E C R => ?_)
  show J E G 0 [(0, .ref (jad G 0)), (1, .int (iI (b))), (2, .int (iI (a))), (3, .int (iI (k)))] [] _
  refine J_iconst C dX6_coordinate_0 ?_
  refine J_istore (lv' := [(4, .int (iI (0))), (0, .ref (jad G 0)), (1, .int (iI (b))), (2, .int (iI (a))), (3, .int (iI (k)))]) C dX6_coordinate_1 (by decide) rfl ?_
  refine J_iload_n C 4 dX6_coordinate_3 rfl ?_
  refine J_istore (lv' := [(5, .int (iI (k))), (4, .int (iI (0))), (0, .ref (jad G 0)), (1, .int (iI (b))), (2, .int (iI (a))), (3, .int (iI (k)))]) C dX6_coordinate_4 (by decide) rfl ?_
  have h0 := pcnt_0 (pC (S 0 1) (S 2) (S 4) b a) (v := 0) (by omega)
  have hz := hX.1
  refine J_lv [2, 3, 4, 1, 0] rfl ?_
  have h9 := lm_coord hG C S b a k X hk hs hb ha hX hX2 R _ 0 rfl (by omega)
  rw [h0, Int.sub_zero] at h9
  exact h9
