theorem c_isLength {G : jG} (hG : cG G) (S : jMem) (a : Int) (ha : inR a) : jM G yX5_isLength cX5_isLength 1 (some .boolean) 0 0 [.int (iI (a))] S (jPi (fun v S' => bb (1 ≤ a ∧ a ≤ 20) = v ∧ S = S')) := by
  refine jM.of (by decide) (Nat.le_of_ble_eq_true rfl) (fun E C R => ?_)
  show J E G 0 [(0, .int (iI (a)))] [] _
  refine J_iload_n C 0 dX5_isLength_0 rfl ?_
  refine J_iconst C dX5_isLength_1 ?_
  refine J_icmp_lt C 15 dX5_isLength_2 (by decide) (by omega) (by omega) (fun h1 => ?_) (fun h1 => ?_)
  · refine J_iconst C dX5_isLength_15 ?_
    exact J_zret R C dX5_isLength_16 (by first | exact Or.inl rfl | exact Or.inr rfl | omega) (jPi.mk ⟨by first | exact bb_t (by omega) | exact bb_f (by omega), rfl⟩)
  · refine J_iload_n C 0 dX5_isLength_5 rfl ?_
    refine J_bipush C dX5_isLength_6 (by decide) ?_
    refine J_icmp_gt C 15 dX5_isLength_8 (by decide) (by omega) (by omega) (fun h2 => ?_) (fun h2 => ?_)
    · refine J_iconst C dX5_isLength_15 ?_
      exact J_zret R C dX5_isLength_16 (by first | exact Or.inl rfl | exact Or.inr rfl | omega) (jPi.mk ⟨by first | exact bb_t (by omega) | exact bb_f (by omega), rfl⟩)
    · refine J_iconst C dX5_isLength_11 ?_
      refine J_goto C 16 dX5_isLength_12 (by decide) ?_
      exact J_zret R C dX5_isLength_16 (by first | exact Or.inl rfl | exact Or.inr rfl | omega) (jPi.mk ⟨by first | exact bb_t (by omega) | exact bb_f (by omega), rfl⟩)
theorem c_isAxis {G : jG} (hG : cG G) (S : jMem) (a : Int) (ha : inR a) : jM G yX5_isAxis cX5_isAxis 1 (some .boolean) 0 0 [.int (iI (a))] S (jPi (fun v S' => bb (0 ≤ a ∧ a < 3) = v ∧ S = S')) := by
  refine jM.of (by decide) (Nat.le_of_ble_eq_true rfl) (fun E C R => ?_)
  show J E G 0 [(0, .int (iI (a)))] [] _
  refine J_iload_n C 0 dX5_isAxis_0 rfl ?_
  refine J_if_lt C 13 dX5_isAxis_1 (by decide) (by omega) (fun h1 => ?_) (fun h1 => ?_)
  · refine J_iconst C dX5_isAxis_13 ?_
    exact J_zret R C dX5_isAxis_14 (by first | exact Or.inl rfl | exact Or.inr rfl | omega) (jPi.mk ⟨by first | exact bb_t (by omega) | exact bb_f (by omega), rfl⟩)
  · refine J_iload_n C 0 dX5_isAxis_4 rfl ?_
    refine J_iconst C dX5_isAxis_5 ?_
    refine J_icmp_ge C 13 dX5_isAxis_6 (by decide) (by omega) (by omega) (fun h2 => ?_) (fun h2 => ?_)
    · refine J_iconst C dX5_isAxis_13 ?_
      exact J_zret R C dX5_isAxis_14 (by first | exact Or.inl rfl | exact Or.inr rfl | omega) (jPi.mk ⟨by first | exact bb_t (by omega) | exact bb_f (by omega), rfl⟩)
    · refine J_iconst C dX5_isAxis_9 ?_
      refine J_goto C 14 dX5_isAxis_10 (by decide) ?_
      exact J_zret R C dX5_isAxis_14 (by first | exact Or.inl rfl | exact Or.inr rfl | omega) (jPi.mk ⟨by first | exact bb_t (by omega) | exact bb_f (by omega), rfl⟩)
def cAnew (S0 S : jMem) : Prop := ∃ S1, cRe S0 S1 ∧ S = up2 (up2 (up2 S1 18 4 0) 25 8 0) 25 9 0
theorem c_anew {G : jG} (hG : cG G) (S0 : jMem) (hk : cOK S0) : jM G yX5_beginAnew cX5_beginAnew 1 none 4 95 [.ref (jad G 0)] S0 (jPv (fun S' => cAnew S0 S')) := by
  refine jM.of (by decide) (Nat.le_of_ble_eq_true rfl) (fun E C R => ?_)
  show J E G 0 [(0, .ref (jad G 0))] [] _
  refine J_aload_n C 0 dX5_beginAnew_0 rfl ?_
  refine g_X5_21 hG C dX5_beginAnew_1 ?_
  refine J_callV (k := 6) (rest := []) C (c_restart hG S0 hk) kc_X3_restart kl_X5_188 (by rw [hG.2]; decide) (by rw [hG.1]; rfl) rfl dX5_beginAnew_4 rfl rfl (by decide) (Nat.le_of_ble_eq_true rfl) (J_kv (fun S1 h1 => ?_))
  have hRe := h1
  refine J_aload_n C 0 dX5_beginAnew_7 rfl ?_
  refine g_X5_28 hG C dX5_beginAnew_8 ?_
  refine J_callV (k := 18) (rest := []) C (c_takeAll hG S1) kc_X2_takeAllAway kl_X5_191 (by rw [hG.2]; decide) (by rw [hG.1]; rfl) rfl dX5_beginAnew_11 rfl rfl (by decide) (Nat.le_of_ble_eq_true rfl) (J_kv (fun S2 h2 => ?_))
  subst h2
  refine J_aload_n C 0 dX5_beginAnew_14 rfl ?_
  refine g_X5_44 hG C dX5_beginAnew_15 ?_
  refine J_callV (k := 25) (rest := []) C (c_forget hG (up2 S1 18 (4) (0))) kc_X1_forget kl_X5_194 (by rw [hG.2]; decide) (by rw [hG.1]; rfl) rfl dX5_beginAnew_18 rfl rfl (by decide) (Nat.le_of_ble_eq_true rfl) (J_kv (fun S3 h3 => ?_))
  subst h3
  exact J_vret R C dX5_beginAnew_21 (jPv.mk ⟨_, hRe, rfl⟩)
def binC (S : jMem) (x y z : Int) : jMem := up2 (up2 (up2 S 2 0 x) 2 1 y) 2 2 z
theorem binC.c {S : jMem} {x y z : Int} : binC S x y z 2 = fset (fset (fset (S 2) 0 x) 1 y) 2 z := by unfold binC; rw [up2_s, up2_s, up2_s]
theorem binC.ok {S : jMem} {x y z : Int} (h : cOK S) (hx : 1 ≤ x ∧ x ≤ 20) (hy : 1 ≤ y ∧ y ≤ 20) (hz : 1 ≤ z ∧ z ≤ 20) : cOK (binC S x y z) := by
  show sOK (S 1 4) (binC S x y z 2) (S 3) (S 4) (S 5)
  rw [binC.c]; exact sOK.bin h hx hy hz
def boxC (S : jMem) (x y z : Int) : jMem := up2 (up2 (up2 (up2 (up2 (up2 S 3 (S 1 4 * 3) x) 3 (S 1 4 * 3 + 1) y) 3 (S 1 4 * 3 + 2) z) 4 (S 1 4) 1) 5 (S 1 4) 1) 1 4 (S 1 4 + 1)
theorem boxC.n (S : jMem) (x y z : Int) : boxC S x y z 1 4 = S 1 4 + 1 := by unfold boxC; rw [up2_eq]
theorem boxC.c3 (S : jMem) (x y z : Int) : boxC S x y z 3 = fset (fset (fset (S 3) (3 * S 1 4) x) (3 * S 1 4 + 1) y) (3 * S 1 4 + 2) z := by
  unfold boxC; rw [up2_k _ _ _ (by decide), up2_k _ _ _ (by decide), up2_k _ _ _ (by decide), up2_s, up2_s, up2_s, Int.mul_comm]
theorem boxC.c4 (S : jMem) (x y z : Int) : boxC S x y z 4 = fset (S 4) (S 1 4) 1 := by
  unfold boxC; rw [up2_k _ _ _ (by decide), up2_k _ _ _ (by decide), up2_s, up2_k _ _ _ (by decide), up2_k _ _ _ (by decide), up2_k _ _ _ (by decide)]
theorem boxC.c5 (S : jMem) (x y z : Int) : boxC S x y z 5 = fset (S 5) (S 1 4) 1 := by
  unfold boxC; rw [up2_k _ _ _ (by decide), up2_s, up2_k _ _ _ (by decide), up2_k _ _ _ (by decide), up2_k _ _ _ (by decide), up2_k _ _ _ (by decide)]
theorem boxC.ok {S : jMem} {x y z : Int} (h : cOK S) (hn : S 1 4 < 8) (hx : 1 ≤ x ∧ x ≤ 20) (hy : 1 ≤ y ∧ y ≤ 20) (hz : 1 ≤ z ∧ z ≤ 20) : cOK (boxC S x y z) := by
  show sOK (boxC S x y z 1 4) (S 2) (boxC S x y z 3) (boxC S x y z 4) (boxC S x y z 5)
  rw [boxC.n, boxC.c3, boxC.c4, boxC.c5]; exact sOK.box h hn hx hy hz
theorem turnC.ok {S : jMem} {b x : Int} (h : cOK S) (hx : 1 ≤ x ∧ x ≤ 63) : cOK (up2 S 4 b x) := by
  show sOK (S 1 4) (S 2) (S 3) (up2 S 4 b x 4) (S 5)
  rw [up2_s]; exact sOK.turn h hx
theorem wtC.ok {S : jMem} {b x : Int} (h : cOK S) (hx : 0 ≤ x ∧ x ≤ 1000) : cOK (up2 S 5 b x) := by
  show sOK (S 1 4) (S 2) (S 3) (S 4) (up2 S 5 b x 5)
  rw [up2_s]; exact sOK.wts h hx
theorem noC.ok {S : jMem} (h : cOK S) : cOK (up2 S 1 4 0) := by
  show sOK (up2 S 1 4 0 1 4) (S 2) (S 3) (S 4) (S 5)
  rw [up2_eq]; exact sOK.none h
theorem c_append {G : jG} (hG : cG G) (S : jMem) (x y z : Int) (hn : 0 ≤ S 1 4 ∧ S 1 4 < 8) : jM G yX4_append cX4_append 4 none 0 0 [.ref (jad G 1), .int (iI (x)), .int (iI (y)), .int (iI (z))] S (jPv (fun S' => S' = boxC S x y z)) := by
  refine jM.of (by decide) (Nat.le_of_ble_eq_true rfl) (fun E C R => ?_)
  show J E G 0 [(0, .ref (jad G 1)), (1, .int (iI (x))), (2, .int (iI (y))), (3, .int (iI (z)))] [] _
  refine J_aload_n C 0 dX4_append_0 rfl ?_
  refine g_X4_24 hG C dX4_append_1 ?_
  refine J_bipush C dX4_append_4 (by decide) ?_
  refine J_icmp_lt C 10 dX4_append_6 (by decide) (by omega) (by omega) (fun _ => ?_) (fun h => absurd h (by omega))
  refine J_aload_n C 0 dX4_append_10 rfl ?_
  refine g_X4_15 hG C dX4_append_11 ?_
  refine J_aload_n C 0 dX4_append_14 rfl ?_
  refine g_X4_24 hG C dX4_append_15 ?_
  refine J_iconst C dX4_append_18 ?_
  refine J_imul C dX4_append_19 ?_
  refine J_iload_n C 1 dX4_append_20 rfl ?_
  refine cast hG C 3 24 (by decide) dX4_append_21 (by omega) (by omega) ?_
  refine J_aload_n C 0 dX4_append_22 rfl ?_
  refine g_X4_15 hG C dX4_append_23 ?_
  refine J_aload_n C 0 dX4_append_26 rfl ?_
  refine g_X4_24 hG C dX4_append_27 ?_
  refine J_top (b := S 1 4) (rd_k (by decide) (rfl)) ?_
  refine J_iconst C dX4_append_30 ?_
  refine J_imul C dX4_append_31 ?_
  refine J_iconst C dX4_append_32 ?_
  refine J_iadd C dX4_append_33 ?_
  refine J_iload_n C 2 dX4_append_34 rfl ?_
  refine cast hG C 3 24 (by decide) dX4_append_35 (by omega) (by omega) ?_
  refine J_aload_n C 0 dX4_append_36 rfl ?_
  refine g_X4_15 hG C dX4_append_37 ?_
  refine J_aload_n C 0 dX4_append_40 rfl ?_
  refine g_X4_24 hG C dX4_append_41 ?_
  refine J_top (b := S 1 4) (rd_k (by decide) (rd_k (by decide) (rfl))) ?_
  refine J_iconst C dX4_append_44 ?_
  refine J_imul C dX4_append_45 ?_
  refine J_iconst C dX4_append_46 ?_
  refine J_iadd C dX4_append_47 ?_
  refine J_iload_n C 3 dX4_append_48 rfl ?_
  refine cast hG C 3 24 (by decide) dX4_append_49 (by omega) (by omega) ?_
  refine J_aload_n C 0 dX4_append_50 rfl ?_
  refine g_X4_18 hG C dX4_append_51 ?_
  refine J_aload_n C 0 dX4_append_54 rfl ?_
  refine g_X4_24 hG C dX4_append_55 ?_
  refine J_top (b := S 1 4) (rd_k (by decide) (rd_k (by decide) (rd_k (by decide) (rfl)))) ?_
  refine J_iconst C dX4_append_58 ?_
  refine cast hG C 4 8 (by decide) dX4_append_59 (by omega) (by omega) ?_
  refine J_aload_n C 0 dX4_append_60 rfl ?_
  refine g_X4_21 hG C dX4_append_61 ?_
  refine J_aload_n C 0 dX4_append_64 rfl ?_
  refine g_X4_24 hG C dX4_append_65 ?_
  refine J_top (b := S 1 4) (rd_k (by decide) (rd_k (by decide) (rd_k (by decide) (rd_k (by decide) (rfl))))) ?_
  refine J_iconst C dX4_append_68 ?_
  refine cast hG C 5 8 (by decide) dX4_append_69 (by omega) (by omega) ?_
  refine J_aload_n C 0 dX4_append_70 rfl ?_
  refine J_dup C dX4_append_71 rfl ?_
  refine g_X4_24 hG C dX4_append_72 ?_
  refine J_top (b := S 1 4) (rd_k (by decide) (rd_k (by decide) (rd_k (by decide) (rd_k (by decide) (rd_k (by decide) (rfl)))))) ?_
  refine J_iconst C dX4_append_75 ?_
  refine J_iadd C dX4_append_76 ?_
  refine p_X4_24 hG C dX4_append_77 ?_
  exact J_vret R C dX4_append_80 (jPv.mk (by rfl))
theorem c_bin {G : jG} (hG : cG G) (S : jMem) (x y z : Int) (hk : cOK S) (hx : inR x) (hy : inR y) (hz : inR z) : jM G yX5_bin cX5_bin 4 (some .int) 5 115 [.ref (jad G 0), .int (iI (x)), .int (iI (y)), .int (iI (z))] S (jPi (fun v S' => if (1 ≤ x ∧ x ≤ 20) ∧ (1 ≤ y ∧ y ≤ 20) ∧ (1 ≤ z ∧ z ≤ 20) then v = 0 ∧ cAnew (binC S x y z) S' else v = -1 ∧ S' = S)) := by
  refine jM.of (by decide) (Nat.le_of_ble_eq_true rfl) (fun E C R => ?_)
  show J E G 0 [(0, .ref (jad G 0)), (1, .int (iI (x))), (2, .int (iI (y))), (3, .int (iI (z)))] [] _
  refine J_iload_n C 1 dX5_bin_0 rfl ?_
  refine J_callS (rest := []) C (c_isLength hG S (x) (by omega)) kc_X5_isLength kl_X5_51 dX5_bin_1 rfl rfl (by decide) (Nat.le_of_ble_eq_true rfl) (J_ki (fun v1 S1 h1 => ?_))
  obtain ⟨rfl, rfl⟩ := h1
  refine J_if_eq_b C 21 dX5_bin_4 (by decide) (fun h2 => ?_) (fun h2 => ?_)
  · refine J_iconst C dX5_bin_21 ?_
    exact J_iret R C dX5_bin_22 (jPi.mk (by rw [if_neg (by omega)]; exact ⟨rfl, rfl⟩))
  · refine J_iload_n C 2 dX5_bin_7 rfl ?_
    refine J_callS (rest := []) C (c_isLength hG S (y) (by omega)) kc_X5_isLength kl_X5_51 dX5_bin_8 rfl rfl (by decide) (Nat.le_of_ble_eq_true rfl) (J_ki (fun v3 S3 h3 => ?_))
    obtain ⟨rfl, rfl⟩ := h3
    refine J_if_eq_b C 21 dX5_bin_11 (by decide) (fun h4 => ?_) (fun h4 => ?_)
    · refine J_iconst C dX5_bin_21 ?_
      exact J_iret R C dX5_bin_22 (jPi.mk (by rw [if_neg (by omega)]; exact ⟨rfl, rfl⟩))
    · refine J_iload_n C 3 dX5_bin_14 rfl ?_
      refine J_callS (rest := []) C (c_isLength hG S (z) (by omega)) kc_X5_isLength kl_X5_51 dX5_bin_15 rfl rfl (by decide) (Nat.le_of_ble_eq_true rfl) (J_ki (fun v5 S5 h5 => ?_))
      obtain ⟨rfl, rfl⟩ := h5
      refine J_if_ne_b C 23 dX5_bin_18 (by decide) (fun h6 => ?_) (fun h6 => ?_)
      · refine J_aload_n C 0 dX5_bin_23 rfl ?_
        refine g_X5_12 hG C dX5_bin_24 ?_
        refine g_X5_55 hG C dX5_bin_27 ?_
        refine J_iconst C dX5_bin_30 ?_
        refine J_iload_n C 1 dX5_bin_31 rfl ?_
        refine cast hG C 2 3 (by decide) dX5_bin_32 (by omega) (by omega) ?_
        refine J_aload_n C 0 dX5_bin_33 rfl ?_
        refine g_X5_12 hG C dX5_bin_34 ?_
        refine g_X5_55 hG C dX5_bin_37 ?_
        refine J_iconst C dX5_bin_40 ?_
        refine J_iload_n C 2 dX5_bin_41 rfl ?_
        refine cast hG C 2 3 (by decide) dX5_bin_42 (by omega) (by omega) ?_
        refine J_aload_n C 0 dX5_bin_43 rfl ?_
        refine g_X5_12 hG C dX5_bin_44 ?_
        refine g_X5_55 hG C dX5_bin_47 ?_
        refine J_iconst C dX5_bin_50 ?_
        refine J_iload_n C 3 dX5_bin_51 rfl ?_
        refine cast hG C 2 3 (by decide) dX5_bin_52 (by omega) (by omega) ?_
        refine J_aload_n C 0 dX5_bin_53 rfl ?_
        refine J_callV (k := 0) (rest := []) C (c_anew hG (up2 (up2 (up2 S 2 (0) (x)) 2 (1) (y)) 2 (2) (z)) (binC.ok hk (by omega) (by omega) (by omega))) kc_X5_beginAnew kl_X5_48 (by rw [hG.2]; decide) (by rw [hG.1]; rfl) rfl dX5_bin_54 rfl rfl (by decide) (Nat.le_of_ble_eq_true rfl) (J_kv (fun S7 h7 => ?_))
        have hA := h7
        refine J_iconst C dX5_bin_57 ?_
        exact J_iret R C dX5_bin_58 (jPi.mk (by rw [if_pos (by omega)]; exact ⟨rfl, hA⟩))
      · refine J_iconst C dX5_bin_21 ?_
        exact J_iret R C dX5_bin_22 (jPi.mk (by rw [if_neg (by omega)]; exact ⟨rfl, rfl⟩))
theorem c_box {G : jG} (hG : cG G) (S : jMem) (x y z : Int) (hk : cOK S) (hx : inR x) (hy : inR y) (hz : inR z) : jM G yX5_box cX5_box 5 (some .int) 5 115 [.ref (jad G 0), .int (iI (x)), .int (iI (y)), .int (iI (z))] S (jPi (fun v S' => if (1 ≤ x ∧ x ≤ 20) ∧ (1 ≤ y ∧ y ≤ 20) ∧ (1 ≤ z ∧ z ≤ 20) then (if S 1 4 = 8 then v = -3 ∧ S' = S else v = S 1 4 ∧ cAnew (boxC S x y z) S') else v = -1 ∧ S' = S)) := by
  refine jM.of (by decide) (Nat.le_of_ble_eq_true rfl) (fun E C R => ?_)
  show J E G 0 [(0, .ref (jad G 0)), (1, .int (iI (x))), (2, .int (iI (y))), (3, .int (iI (z)))] [] _
  have hn := hk.1
  refine J_iload_n C 1 dX5_box_0 rfl ?_
  refine J_callS (rest := []) C (c_isLength hG S (x) (by omega)) kc_X5_isLength kl_X5_51 dX5_box_1 rfl rfl (by decide) (Nat.le_of_ble_eq_true rfl) (J_ki (fun v1 S1 h1 => ?_))
  obtain ⟨rfl, rfl⟩ := h1
  refine J_if_eq_b C 21 dX5_box_4 (by decide) (fun h2 => ?_) (fun h2 => ?_)
  · refine J_iconst C dX5_box_21 ?_
    exact J_iret R C dX5_box_22 (jPi.mk (by rw [if_neg (by omega)]; exact ⟨rfl, rfl⟩))
  · refine J_iload_n C 2 dX5_box_7 rfl ?_
    refine J_callS (rest := []) C (c_isLength hG S (y) (by omega)) kc_X5_isLength kl_X5_51 dX5_box_8 rfl rfl (by decide) (Nat.le_of_ble_eq_true rfl) (J_ki (fun v3 S3 h3 => ?_))
    obtain ⟨rfl, rfl⟩ := h3
    refine J_if_eq_b C 21 dX5_box_11 (by decide) (fun h4 => ?_) (fun h4 => ?_)
    · refine J_iconst C dX5_box_21 ?_
      exact J_iret R C dX5_box_22 (jPi.mk (by rw [if_neg (by omega)]; exact ⟨rfl, rfl⟩))
    · refine J_iload_n C 3 dX5_box_14 rfl ?_
      refine J_callS (rest := []) C (c_isLength hG S (z) (by omega)) kc_X5_isLength kl_X5_51 dX5_box_15 rfl rfl (by decide) (Nat.le_of_ble_eq_true rfl) (J_ki (fun v5 S5 h5 => ?_))
      obtain ⟨rfl, rfl⟩ := h5
      refine J_if_ne_b C 23 dX5_box_18 (by decide) (fun h6 => ?_) (fun h6 => ?_)
      · refine J_aload_n C 0 dX5_box_23 rfl ?_
        refine g_X5_12 hG C dX5_box_24 ?_
        refine g_X5_59 hG C dX5_box_27 ?_
        refine J_bipush C dX5_box_30 (by decide) ?_
        refine J_icmp_lt C 38 dX5_box_32 (by decide) (by omega) (by omega) (fun h7 => ?_) (fun h7 => ?_)
        · refine J_aload_n C 0 dX5_box_38 rfl ?_
          refine g_X5_12 hG C dX5_box_39 ?_
          refine g_X5_59 hG C dX5_box_42 ?_
          refine J_istore (lv' := [(4, .int (iI (S 1 4))), (0, .ref (jad G 0)), (1, .int (iI (x))), (2, .int (iI (y))), (3, .int (iI (z)))]) C dX5_box_45 (by decide) rfl ?_
          refine J_aload_n C 1 dX5_box_47 rfl ?_
          refine g_X5_12 hG C dX5_box_48 ?_
          refine J_iload_n C 2 dX5_box_51 rfl ?_
          refine J_iload_n C 3 dX5_box_52 rfl ?_
          refine J_iload_n C 4 dX5_box_53 rfl ?_
          refine J_callV (k := 1) (rest := []) C (c_append hG S (x) (y) (z) (by omega)) kc_X4_append kl_X5_63 (by rw [hG.2]; decide) (by rw [hG.1]; rfl) rfl dX5_box_54 rfl rfl (by decide) (Nat.le_of_ble_eq_true rfl) (J_kv (fun S8 h8 => ?_))
          subst h8
          refine J_aload_n C 1 dX5_box_57 rfl ?_
          refine J_callV (k := 0) (rest := []) C (c_anew hG (boxC S (x) (y) (z)) (boxC.ok hk (by omega) (by omega) (by omega) (by omega))) kc_X5_beginAnew kl_X5_48 (by rw [hG.2]; decide) (by rw [hG.1]; rfl) rfl dX5_box_58 rfl rfl (by decide) (Nat.le_of_ble_eq_true rfl) (J_kv (fun S9 h9 => ?_))
          have hA := h9
          refine J_iload C 0 dX5_box_61 rfl ?_
          exact J_iret R C dX5_box_63 (jPi.mk (by rw [if_pos (by omega), if_neg (by omega)]; exact ⟨rfl, hA⟩))
        · refine J_bipush C dX5_box_35 (by decide) ?_
          exact J_iret R C dX5_box_37 (jPi.mk (by rw [if_pos (by omega), if_pos (by omega)]; exact ⟨rfl, rfl⟩))
      · refine J_iconst C dX5_box_21 ?_
        exact J_iret R C dX5_box_22 (jPi.mk (by rw [if_neg (by omega)]; exact ⟨rfl, rfl⟩))
theorem c_turns {G : jG} (hG : cG G) (S : jMem) (b x : Int) (hk : cOK S) (hb : inR b) (hx : inR x) : jM G yX5_turns cX5_turns 4 (some .int) 5 115 [.ref (jad G 0), .int (iI (b)), .int (iI (x))] S (jPi (fun v S' => if (0 ≤ b ∧ b < S 1 4) ∧ (1 ≤ x ∧ x ≤ 63) then v = S 4 b ∧ cAnew (up2 S 4 b x) S' else v = -1 ∧ S' = S)) := by
  refine jM.of (by decide) (Nat.le_of_ble_eq_true rfl) (fun E C R => ?_)
  show J E G 0 [(0, .ref (jad G 0)), (1, .int (iI (b))), (2, .int (iI (x)))] [] _
  have hn := hk.1
  refine J_aload_n C 0 dX5_turns_0 rfl ?_
  refine g_X5_12 hG C dX5_turns_1 ?_
  refine J_iload_n C 1 dX5_turns_4 rfl ?_
  refine J_callV (k := 1) (rest := []) C (c_isBox hG S (b) (by omega) (by omega)) kc_X4_isBox kl_X5_67 (by rw [hG.2]; decide) (by rw [hG.1]; rfl) rfl dX5_turns_5 rfl rfl (by decide) (Nat.le_of_ble_eq_true rfl) (J_ki (fun v1 S1 h1 => ?_))
  obtain ⟨rfl, rfl⟩ := h1
  refine J_if_eq_b C 22 dX5_turns_8 (by decide) (fun h2 => ?_) (fun h2 => ?_)
  · refine J_iconst C dX5_turns_22 ?_
    exact J_iret R C dX5_turns_23 (jPi.mk (by rw [if_neg (by omega)]; exact ⟨rfl, rfl⟩))
  · refine J_iload_n C 2 dX5_turns_11 rfl ?_
    refine J_iconst C dX5_turns_12 ?_
    refine J_icmp_lt C 22 dX5_turns_13 (by decide) (by omega) (by omega) (fun h3 => ?_) (fun h3 => ?_)
    · refine J_iconst C dX5_turns_22 ?_
      exact J_iret R C dX5_turns_23 (jPi.mk (by rw [if_neg (by omega)]; exact ⟨rfl, rfl⟩))
    · refine J_iload_n C 2 dX5_turns_16 rfl ?_
      refine J_bipush C dX5_turns_17 (by decide) ?_
      refine J_icmp_le C 24 dX5_turns_19 (by decide) (by omega) (by omega) (fun h4 => ?_) (fun h4 => ?_)
      · refine J_aload_n C 0 dX5_turns_24 rfl ?_
        refine g_X5_12 hG C dX5_turns_25 ?_
        refine g_X5_70 hG C dX5_turns_28 ?_
        refine J_iload_n C 1 dX5_turns_31 rfl ?_
        refine cald hG C 4 8 (by decide) dX5_turns_32 (by omega) (by omega) ?_
        refine J_istore_n (lv' := [(3, .int (iI (S 4 (b)))), (0, .ref (jad G 0)), (1, .int (iI (b))), (2, .int (iI (x)))]) C dX5_turns_33 (by decide) rfl ?_
        refine J_aload_n C 1 dX5_turns_34 rfl ?_
        refine g_X5_12 hG C dX5_turns_35 ?_
        refine g_X5_70 hG C dX5_turns_38 ?_
        refine J_iload_n C 2 dX5_turns_41 rfl ?_
        refine J_iload_n C 3 dX5_turns_42 rfl ?_
        refine cast hG C 4 8 (by decide) dX5_turns_43 (by omega) (by omega) ?_
        refine J_aload_n C 1 dX5_turns_44 rfl ?_
        refine J_callV (k := 0) (rest := []) C (c_anew hG (up2 S 4 (b) (x)) (turnC.ok hk (by omega))) kc_X5_beginAnew kl_X5_48 (by rw [hG.2]; decide) (by rw [hG.1]; rfl) rfl dX5_turns_45 rfl rfl (by decide) (Nat.le_of_ble_eq_true rfl) (J_kv (fun S5 h5 => ?_))
        have hA := h5
        refine J_iload_n C 0 dX5_turns_48 rfl ?_
        exact J_iret R C dX5_turns_49 (jPi.mk (by rw [if_pos (by omega)]; exact ⟨rfl, hA⟩))
      · refine J_iconst C dX5_turns_22 ?_
        exact J_iret R C dX5_turns_23 (jPi.mk (by rw [if_neg (by omega)]; exact ⟨rfl, rfl⟩))
theorem c_weight {G : jG} (hG : cG G) (S : jMem) (b n : Int) (hk : cOK S) (hb : inR b) (hn0 : inR n) : jM G yX5_weight cX5_weight 4 (some .int) 1 21 [.ref (jad G 0), .int (iI (b)), .int (iI (n))] S (jPi (fun v S' => if (0 ≤ b ∧ b < S 1 4) ∧ (0 ≤ n ∧ n ≤ 1000) then v = S 5 b ∧ S' = up2 S 5 b n else v = -1 ∧ S' = S)) := by
  refine jM.of (by decide) (Nat.le_of_ble_eq_true rfl) (fun E C R => ?_)
  show J E G 0 [(0, .ref (jad G 0)), (1, .int (iI (b))), (2, .int (iI (n)))] [] _
  have hn := hk.1
  refine J_aload_n C 0 dX5_weight_0 rfl ?_
  refine g_X5_12 hG C dX5_weight_1 ?_
  refine J_iload_n C 1 dX5_weight_4 rfl ?_
  refine J_callV (k := 1) (rest := []) C (c_isBox hG S (b) (by omega) (by omega)) kc_X4_isBox kl_X5_67 (by rw [hG.2]; decide) (by rw [hG.1]; rfl) rfl dX5_weight_5 rfl rfl (by decide) (Nat.le_of_ble_eq_true rfl) (J_ki (fun v1 S1 h1 => ?_))
  obtain ⟨rfl, rfl⟩ := h1
  refine J_if_eq_b C 22 dX5_weight_8 (by decide) (fun h2 => ?_) (fun h2 => ?_)
  · refine J_iconst C dX5_weight_22 ?_
    exact J_iret R C dX5_weight_23 (jPi.mk (by rw [if_neg (by omega)]; exact ⟨rfl, rfl⟩))
  · refine J_iload_n C 2 dX5_weight_11 rfl ?_
    refine J_if_lt C 22 dX5_weight_12 (by decide) (by omega) (fun h3 => ?_) (fun h3 => ?_)
    · refine J_iconst C dX5_weight_22 ?_
      exact J_iret R C dX5_weight_23 (jPi.mk (by rw [if_neg (by omega)]; exact ⟨rfl, rfl⟩))
    · refine J_iload_n C 2 dX5_weight_15 rfl ?_
      refine J_sipush C dX5_weight_16 (by decide) ?_
      refine J_icmp_le C 24 dX5_weight_19 (by decide) (by omega) (by omega) (fun h4 => ?_) (fun h4 => ?_)
      · refine J_aload_n C 0 dX5_weight_24 rfl ?_
        refine g_X5_12 hG C dX5_weight_25 ?_
        refine g_X5_73 hG C dX5_weight_28 ?_
        refine J_iload_n C 1 dX5_weight_31 rfl ?_
        refine cald hG C 5 8 (by decide) dX5_weight_32 (by omega) (by omega) ?_
        refine J_istore_n (lv' := [(3, .int (iI (S 5 (b)))), (0, .ref (jad G 0)), (1, .int (iI (b))), (2, .int (iI (n)))]) C dX5_weight_33 (by decide) rfl ?_
        refine J_aload_n C 1 dX5_weight_34 rfl ?_
        refine g_X5_12 hG C dX5_weight_35 ?_
        refine g_X5_73 hG C dX5_weight_38 ?_
        refine J_iload_n C 2 dX5_weight_41 rfl ?_
        refine J_iload_n C 3 dX5_weight_42 rfl ?_
        refine cast hG C 5 8 (by decide) dX5_weight_43 (by omega) (by omega) ?_
        refine J_iload_n C 0 dX5_weight_44 rfl ?_
        exact J_iret R C dX5_weight_45 (jPi.mk (by rw [if_pos (by omega)]; exact ⟨rfl, rfl⟩))
      · refine J_iconst C dX5_weight_22 ?_
        exact J_iret R C dX5_weight_23 (jPi.mk (by rw [if_neg (by omega)]; exact ⟨rfl, rfl⟩))
theorem c_clear {G : jG} (hG : cG G) (S : jMem) (hk : cOK S) : jM G yX5_clear cX5_clear 2 (some .int) 5 115 [.ref (jad G 0)] S (jPi (fun v S' => v = S 1 4 ∧ cAnew (up2 S 1 4 0) S')) := by
  refine jM.of (by decide) (Nat.le_of_ble_eq_true rfl) (fun E C R => ?_)
  show J E G 0 [(0, .ref (jad G 0))] [] _
  have hn := hk.1
  refine J_aload_n C 0 dX5_clear_0 rfl ?_
  refine g_X5_12 hG C dX5_clear_1 ?_
  refine g_X5_59 hG C dX5_clear_4 ?_
  refine J_istore_n (lv' := [(1, .int (iI (S 1 4))), (0, .ref (jad G 0))]) C dX5_clear_7 (by decide) rfl ?_
  refine J_aload_n C 1 dX5_clear_8 rfl ?_
  refine g_X5_12 hG C dX5_clear_9 ?_
  refine J_iconst C dX5_clear_12 ?_
  refine p_X5_59 hG C dX5_clear_13 ?_
  refine J_aload_n C 1 dX5_clear_16 rfl ?_
  refine J_callV (k := 0) (rest := []) C (c_anew hG (up2 S 1 (4) (0)) (noC.ok hk)) kc_X5_beginAnew kl_X5_48 (by rw [hG.2]; decide) (by rw [hG.1]; rfl) rfl dX5_clear_17 rfl rfl (by decide) (Nat.le_of_ble_eq_true rfl) (J_kv (fun S1 h1 => ?_))
  have hA := h1
  refine J_iload_n C 0 dX5_clear_20 rfl ?_
  exact J_iret R C dX5_clear_21 (jPi.mk ⟨rfl, hA⟩)
theorem c_run {G : jG} (hG : cG G) (S : jMem) (w s1 s2 s3 : Int) (nx : Int → Int) (hk : cOK S) (hs : cS S) (hw : inR w) (hc : crel S (s1, s2, s3, w, nx)) : jM G yX5_run cX5_run 2 (some .int) 6 134 [.ref (jad G 0), .int (iI (w))] S (jPi (fun v S' => if 1 ≤ w ∧ w ≤ 20000 then (∃ s', sEnd (sstep (S 1 4) (S 2) (S 3) (S 4) (S 7)) (s1, s2, s3, w, nx) s' ∧ crel S' s' ∧ v = s'.1 ∧ keeps [6, 9, 10, 11, 12, 13, 14, 15, 16, 17] S S') else v = -1 ∧ S' = S)) := by
  refine jM.of (by decide) (Nat.le_of_ble_eq_true rfl) (fun E C R => ?_)
  show J E G 0 [(0, .ref (jad G 0)), (1, .int (iI (w)))] [] _
  refine J_iload_n C 1 dX5_run_0 rfl ?_
  refine J_iconst C dX5_run_1 ?_
  refine J_icmp_lt C 12 dX5_run_2 (by decide) (by omega) (by omega) (fun h1 => ?_) (fun h1 => ?_)
  · refine J_iconst C dX5_run_12 ?_
    exact J_iret R C dX5_run_13 (jPi.mk (by rw [if_neg (by omega)]; exact ⟨rfl, rfl⟩))
  · refine J_iload_n C 1 dX5_run_5 rfl ?_
    refine J_sipush C dX5_run_6 (by decide) ?_
    refine J_icmp_le C 14 dX5_run_9 (by decide) (by omega) (by omega) (fun h2 => ?_) (fun h2 => ?_)
    · refine J_aload_n C 0 dX5_run_14 rfl ?_
      refine g_X5_21 hG C dX5_run_15 ?_
      refine J_iload_n C 1 dX5_run_18 rfl ?_
      refine J_callV (k := 6) (rest := []) C (c_goOn hG S (w) s1 s2 s3 nx hk hs (by omega) hc) kc_X3_goOn kl_X5_76 (by rw [hG.2]; decide) (by rw [hG.1]; rfl) rfl dX5_run_19 rfl rfl (by decide) (Nat.le_of_ble_eq_true rfl) (J_ki (fun v3 S3 h3 => ?_))
      have hGo := h3
      exact J_iret R C dX5_run_22 (jPi.mk (by rw [if_pos (by omega)]; exact hGo))
    · refine J_iconst C dX5_run_12 ?_
      exact J_iret R C dX5_run_13 (jPi.mk (by rw [if_neg (by omega)]; exact ⟨rfl, rfl⟩))
theorem c_told {G : jG} (hG : cG G) (S : jMem) (w k : Int) (hk : cOK S) (hs : cS S) (hw : inR w) (hb : inR k) : jM G yX5_told cX5_told 3 (some .int) 4 92 [.ref (jad G 0), .int (iI (w)), .int (iI (k))] S (jPi (fun v S' => ptold (S 6 14) (S 1 4) (S 2) (S 3) (S 4) (S 7) w k = v ∧ S = S')) := by
  refine jM.of (by decide) (Nat.le_of_ble_eq_true rfl) (fun E C R => ?_)
  show J E G 0 [(0, .ref (jad G 0)), (1, .int (iI (w))), (2, .int (iI (k)))] [] _
  have hn := hk.1
  refine J_iload_n C 1 dX5_told_0 rfl ?_
  refine J_if_ne C 12 dX5_told_1 (by decide) (by omega) (fun h1 => ?_) (fun h1 => ?_)
  · refine J_iload_n C 1 dX5_told_12 rfl ?_
    refine J_if_lt C 32 dX5_told_13 (by decide) (by omega) (fun h2 => ?_) (fun h2 => ?_)
    · refine J_iconst C dX5_told_32 ?_
      exact J_iret R C dX5_told_33 (jPi.mk ⟨by unfold ptold; (repeat first | rw [if_pos (by omega)] | rw [if_neg (by omega)]), rfl⟩)
    · refine J_iload_n C 1 dX5_told_16 rfl ?_
      refine J_iconst C dX5_told_17 ?_
      refine J_icmp_gt C 32 dX5_told_18 (by decide) (by omega) (by omega) (fun h3 => ?_) (fun h3 => ?_)
      · refine J_iconst C dX5_told_32 ?_
        exact J_iret R C dX5_told_33 (jPi.mk ⟨by unfold ptold; (repeat first | rw [if_pos (by omega)] | rw [if_neg (by omega)]), rfl⟩)
      · refine J_aload_n C 0 dX5_told_21 rfl ?_
        refine g_X5_12 hG C dX5_told_22 ?_
        refine J_iload_n C 2 dX5_told_25 rfl ?_
        refine J_callV (k := 1) (rest := []) C (c_isBox hG S (k) (by omega) (by omega)) kc_X4_isBox kl_X5_67 (by rw [hG.2]; decide) (by rw [hG.1]; rfl) rfl dX5_told_26 rfl rfl (by decide) (Nat.le_of_ble_eq_true rfl) (J_ki (fun v4 S4 h4 => ?_))
        obtain ⟨rfl, rfl⟩ := h4
        refine J_if_ne_b C 34 dX5_told_29 (by decide) (fun h5 => ?_) (fun h5 => ?_)
        · refine J_iload_n C 1 dX5_told_34 rfl ?_
          refine J_iconst C dX5_told_35 ?_
          refine J_icmp_ne C 49 dX5_told_36 (by decide) (by omega) (by omega) (fun h6 => ?_) (fun h6 => ?_)
          · refine J_iload_n C 1 dX5_told_49 rfl ?_
            refine J_iconst C dX5_told_50 ?_
            refine J_icmp_ne C 65 dX5_told_51 (by decide) (by omega) (by omega) (fun h7 => ?_) (fun h7 => ?_)
            · refine J_aload_n C 0 dX5_told_65 rfl ?_
              refine g_X5_21 hG C dX5_told_66 ?_
              refine J_iload_n C 2 dX5_told_69 rfl ?_
              refine J_iload_n C 1 dX5_told_70 rfl ?_
              refine J_iconst C dX5_told_71 ?_
              refine J_isub C dX5_told_72 ?_
              refine J_callV (k := 6) (rest := []) C (c_cocnt hG S (k) ((w) - (3)) hk hs (by omega) (by omega)) kc_X3_coordinateCount kl_X5_89 (by rw [hG.2]; decide) (by rw [hG.1]; rfl) rfl dX5_told_73 rfl rfl (by decide) (Nat.le_of_ble_eq_true rfl) (J_ki (fun v8 S8 h8 => ?_))
              obtain ⟨rfl, rfl⟩ := h8
              exact J_iret R C dX5_told_76 (jPi.mk ⟨by unfold ptold; (repeat first | rw [if_pos (by omega)] | rw [if_neg (by omega)]), rfl⟩)
            · refine J_aload_n C 0 dX5_told_54 rfl ?_
              refine g_X5_21 hG C dX5_told_55 ?_
              refine J_iload_n C 2 dX5_told_58 rfl ?_
              refine J_callV (k := 6) (rest := []) C (c_wcnt hG S (k) hk hs (by omega)) kc_X3_wayCount kl_X5_86 (by rw [hG.2]; decide) (by rw [hG.1]; rfl) rfl dX5_told_59 rfl rfl (by decide) (Nat.le_of_ble_eq_true rfl) (J_ki (fun v9 S9 h9 => ?_))
              obtain ⟨rfl, rfl⟩ := h9
              refine J_goto C 76 dX5_told_62 (by decide) ?_
              exact J_iret R C dX5_told_76 (jPi.mk ⟨by unfold ptold; (repeat first | rw [if_pos (by omega)] | rw [if_neg (by omega)]), rfl⟩)
          · refine J_aload_n C 0 dX5_told_39 rfl ?_
            refine g_X5_21 hG C dX5_told_40 ?_
            refine g_X5_83 hG C dX5_told_43 ?_
            refine J_iload_n C 2 dX5_told_46 rfl ?_
            refine cald hG C 7 8 (by decide) dX5_told_47 (by omega) (by omega) ?_
            exact J_iret R C dX5_told_48 (jPi.mk ⟨by unfold ptold; (repeat first | rw [if_pos (by omega)] | rw [if_neg (by omega)]), rfl⟩)
        · refine J_iconst C dX5_told_32 ?_
          exact J_iret R C dX5_told_33 (jPi.mk ⟨by unfold ptold; (repeat first | rw [if_pos (by omega)] | rw [if_neg (by omega)]), rfl⟩)
  · refine J_aload_n C 0 dX5_told_4 rfl ?_
    refine g_X5_21 hG C dX5_told_5 ?_
    refine g_X5_80 hG C dX5_told_8 ?_
    exact J_iret R C dX5_told_11 (jPi.mk ⟨by unfold ptold; (repeat first | rw [if_pos (by omega)] | rw [if_neg (by omega)]), rfl⟩)
theorem c_overlaps {G : jG} (hG : cG G) (S : jMem) (hl : lOK S) : jM G yX5_overlaps cX5_overlaps 1 (some .int) 2 46 [.ref (jad G 0)] S (jPi (fun v S' => povs (S 18 4) (S 20) (S 21) = v ∧ S = S')) := by
  refine jM.of (by decide) (Nat.le_of_ble_eq_true rfl) (fun E C R => ?_)
  show J E G 0 [(0, .ref (jad G 0))] [] _
  refine J_aload_n C 0 dX5_overlaps_0 rfl ?_
  refine g_X5_28 hG C dX5_overlaps_1 ?_
  refine J_callV (k := 18) (rest := []) C (c_overlapCount hG S hl) kc_X2_overlapCount kl_X5_110 (by rw [hG.2]; decide) (by rw [hG.1]; rfl) rfl dX5_overlaps_4 rfl rfl (by decide) (Nat.le_of_ble_eq_true rfl) (J_ki (fun v1 S1 h1 => ?_))
  obtain ⟨rfl, rfl⟩ := h1
  exact J_iret R C dX5_overlaps_7 (jPi.mk ⟨by rfl, rfl⟩)
theorem putS.l {S : jMem} {b t x y z : Int} (hk : cOK S) (hl : lOK S) (hb : 0 ≤ b ∧ b < 8) (hx : 0 ≤ x ∧ x + pext (S 3) b t 0 ≤ 20) (hy : 0 ≤ y ∧ y + pext (S 3) b t 1 ≤ 20) (hz : 0 ≤ z ∧ z + pext (S 3) b t 2 ≤ 20) : lOK (putS S b t x y z) := by
  have x0 := pext_in hk (b := b) (t := t) (a := 0) hb.1 hb.2
  have x1 := pext_in hk (b := b) (t := t) (a := 1) hb.1 hb.2
  have x2 := pext_in hk (b := b) (t := t) (a := 2) hb.1 hb.2
  obtain ⟨h1, h2, h3⟩ := hl
  have hp := zpow_lt (n := b) (k := 8) hb.1 hb.2
  unfold putS
  refine ⟨⟨?_, ?_⟩, fun i i1 i2 => ?_, fun i i1 i2 => ?_⟩
  · rw [up2_eq]; exact zor_nn _ _
  · rw [up2_eq]; exact zor_lt (k := 8) h1.1 h1.2 hp.2
  · rw [up2_k _ _ _ (by decide), up2_k _ _ _ (by decide), up2_k _ _ _ (by decide), up2_k _ _ _ (by decide), up2_s, up2_s, up2_s, up2_k _ _ _ (by decide)]
    unfold fset
    repeat' split
    all_goals first | omega | exact h2 i i1 i2
  · rw [up2_k _ _ _ (by decide), up2_s, up2_s, up2_s, up2_k _ _ _ (by decide), up2_k _ _ _ (by decide), up2_k _ _ _ (by decide), up2_k _ _ _ (by decide)]
    unfold fset
    repeat' split
    all_goals first | omega | exact h3 i i1 i2
theorem place_in {n : Int} {len sid tb wt : Int → Int} (hk : sOK n len sid tb wt) {b t x y z : Int} (h : pplace n len sid tb b t x y z) : (0 ≤ x ∧ x + pext sid b t 0 ≤ 20) ∧ (0 ≤ y ∧ y + pext sid b t 1 ≤ 20) ∧ (0 ≤ z ∧ z + pext sid b t 2 ≤ 20) := by
  have l0 := hk.2.1 0 (by omega) (by omega)
  have l1 := hk.2.1 1 (by omega) (by omega)
  have l2 := hk.2.1 2 (by omega) (by omega)
  obtain ⟨-, -, -, p0, p1, p2⟩ := h
  omega
theorem c_lay {G : jG} (hG : cG G) (S : jMem) (b t x y z : Int) (hk : cOK S) (hl : lOK S) (hb : inR b) (ht : inR t) (hx : inR x) (hy : inR y) (hz : inR z) : jM G yX5_lay cX5_lay 6 (some .int) 2 50 [.ref (jad G 0), .int (iI (b)), .int (iI (t)), .int (iI (x)), .int (iI (y)), .int (iI (z))] S (jPi (fun v S' => @ite Prop (pplace (S 1 4) (S 2) (S 3) (S 4) b t x y z) (Classical.propDecidable _) (v = povs (putS S b t x y z 18 4) (putS S b t x y z 20) (putS S b t x y z 21) ∧ S' = putS S b t x y z) (v = -1 ∧ S' = S))) := by
  refine jM.of (by decide) (Nat.le_of_ble_eq_true rfl) (fun E C R => ?_)
  show J E G 0 [(0, .ref (jad G 0)), (1, .int (iI (b))), (2, .int (iI (t))), (3, .int (iI (x))), (4, .int (iI (y))), (5, .int (iI (z)))] [] _
  have hn := hk.1
  refine J_aload_n C 0 dX5_lay_0 rfl ?_
  refine g_X5_12 hG C dX5_lay_1 ?_
  refine J_iload_n C 1 dX5_lay_4 rfl ?_
  refine J_iload_n C 2 dX5_lay_5 rfl ?_
  refine J_iload_n C 3 dX5_lay_6 rfl ?_
  refine J_iload C 4 dX5_lay_7 rfl ?_
  refine J_iload C 5 dX5_lay_9 rfl ?_
  refine J_callV (k := 1) (rest := []) C (c_isPlace hG S (b) (t) (x) (y) (z) hk (by omega) (by omega) (by omega) (by omega) (by omega)) kc_X4_isPlace kl_X5_106 (by rw [hG.2]; decide) (by rw [hG.1]; rfl) rfl dX5_lay_11 rfl rfl (by decide) (Nat.le_of_ble_eq_true rfl) (J_ki (fun v1 S1 h1 => ?_))
  obtain ⟨rfl, rfl⟩ := h1
  refine J_if_ne_b C 19 dX5_lay_14 (by decide) (fun h2 => ?_) (fun h2 => ?_)
  · have hpl : pplace (S 1 4) (S 2) (S 3) (S 4) b t x y z := by assumption
    have hpi := place_in hk hpl
    have hl2 := putS.l hk hl (b := b) (t := t) (by omega) hpi.1 hpi.2.1 hpi.2.2
    refine J_aload_n C 0 dX5_lay_19 rfl ?_
    refine g_X5_28 hG C dX5_lay_20 ?_
    refine J_iload_n C 1 dX5_lay_23 rfl ?_
    refine J_iload_n C 2 dX5_lay_24 rfl ?_
    refine J_iload_n C 3 dX5_lay_25 rfl ?_
    refine J_iload C 4 dX5_lay_26 rfl ?_
    refine J_iload C 5 dX5_lay_28 rfl ?_
    refine J_callV (k := 18) (rest := []) C (c_put hG S (b) (t) (x) (y) (z) hk hl (by omega) (by omega)) kc_X2_put kl_X5_102 (by rw [hG.2]; decide) (by rw [hG.1]; rfl) rfl dX5_lay_30 rfl rfl (by decide) (Nat.le_of_ble_eq_true rfl) (J_kv (fun S3 h3 => ?_))
    subst h3
    refine J_aload_n C 0 dX5_lay_33 rfl ?_
    refine g_X5_28 hG C dX5_lay_34 ?_
    refine J_callV (k := 18) (rest := []) C (c_overlapCount hG (putS S (b) (t) (x) (y) (z)) hl2) kc_X2_overlapCount kl_X5_110 (by rw [hG.2]; decide) (by rw [hG.1]; rfl) rfl dX5_lay_37 rfl rfl (by decide) (Nat.le_of_ble_eq_true rfl) (J_ki (fun v4 S4 h4 => ?_))
    obtain ⟨rfl, rfl⟩ := h4
    exact J_iret R C dX5_lay_40 (jPi.mk (by rw [if_pos (by assumption)]; exact ⟨rfl, rfl⟩))
  · refine J_iconst C dX5_lay_17 ?_
    exact J_iret R C dX5_lay_18 (jPi.mk (by rw [if_neg (by assumption)]; exact ⟨rfl, rfl⟩))
theorem c_lift {G : jG} (hG : cG G) (S : jMem) (b : Int) (hk : cOK S) (hl : lOK S) (hb : inR b) : jM G yX5_lift cX5_lift 2 (some .int) 1 21 [.ref (jad G 0), .int (iI (b))] S (jPi (fun v S' => if 0 ≤ b ∧ b < S 1 4 then (if zbit (S 18 4) b then v = 0 ∧ S' = up2 S 18 4 (zandn (S 18 4) (1 * 2 ^ b.toNat)) else v = -2 ∧ S' = S) else v = -1 ∧ S' = S)) := by
  refine jM.of (by decide) (Nat.le_of_ble_eq_true rfl) (fun E C R => ?_)
  show J E G 0 [(0, .ref (jad G 0)), (1, .int (iI (b)))] [] _
  have hn := hk.1
  refine J_aload_n C 0 dX5_lift_0 rfl ?_
  refine g_X5_12 hG C dX5_lift_1 ?_
  refine J_iload_n C 1 dX5_lift_4 rfl ?_
  refine J_callV (k := 1) (rest := []) C (c_isBox hG S (b) (by omega) (by omega)) kc_X4_isBox kl_X5_67 (by rw [hG.2]; decide) (by rw [hG.1]; rfl) rfl dX5_lift_5 rfl rfl (by decide) (Nat.le_of_ble_eq_true rfl) (J_ki (fun v1 S1 h1 => ?_))
  obtain ⟨rfl, rfl⟩ := h1
  refine J_if_ne_b C 13 dX5_lift_8 (by decide) (fun h2 => ?_) (fun h2 => ?_)
  · refine J_aload_n C 0 dX5_lift_13 rfl ?_
    refine g_X5_28 hG C dX5_lift_14 ?_
    refine J_iload_n C 1 dX5_lift_17 rfl ?_
    refine J_callV (k := 18) (rest := []) C (c_holds hG S (b) hl (by omega)) kc_X2_holds kl_X5_114 (by rw [hG.2]; decide) (by rw [hG.1]; rfl) rfl dX5_lift_18 rfl rfl (by decide) (Nat.le_of_ble_eq_true rfl) (J_ki (fun v3 S3 h3 => ?_))
    obtain ⟨rfl, rfl⟩ := h3
    refine J_if_ne_b C 27 dX5_lift_21 (by decide) (fun h4 => ?_) (fun h4 => ?_)
    · refine J_aload_n C 0 dX5_lift_27 rfl ?_
      refine g_X5_28 hG C dX5_lift_28 ?_
      refine J_iload_n C 1 dX5_lift_31 rfl ?_
      refine J_callV (k := 18) (rest := []) C (c_takeAway hG S (b) hl (by omega)) kc_X2_takeAway kl_X5_117 (by rw [hG.2]; decide) (by rw [hG.1]; rfl) rfl dX5_lift_32 rfl rfl (by decide) (Nat.le_of_ble_eq_true rfl) (J_kv (fun S5 h5 => ?_))
      subst h5
      refine J_iconst C dX5_lift_35 ?_
      exact J_iret R C dX5_lift_36 (jPi.mk (by rw [if_pos (by omega), if_pos (by assumption)]; exact ⟨rfl, rfl⟩))
    · refine J_bipush C dX5_lift_24 (by decide) ?_
      exact J_iret R C dX5_lift_26 (jPi.mk (by rw [if_pos (by omega), if_neg (by assumption)]; exact ⟨rfl, rfl⟩))
  · refine J_iconst C dX5_lift_11 ?_
    exact J_iret R C dX5_lift_12 (jPi.mk (by rw [if_neg (by omega)]; exact ⟨rfl, rfl⟩))
theorem c_place {G : jG} (hG : cG G) (S : jMem) (b w : Int) (hk : cOK S) (hl : lOK S) (hb : inR b) (hw : inR w) : jM G yX5_place cX5_place 3 (some .int) 1 22 [.ref (jad G 0), .int (iI (b)), .int (iI (w))] S (jPi (fun v S' => (if (0 ≤ b ∧ b < S 1 4) ∧ (0 ≤ w ∧ w ≤ 6) then (if zbit (S 18 4) b then (if w < 3 then S 20 (b * 3 + w) else if w = 3 then S 19 b else S 21 (b * 3 + (w - 4)) - S 20 (b * 3 + (w - 4))) else -9) else -1) = v ∧ S = S')) := by
  refine jM.of (by decide) (Nat.le_of_ble_eq_true rfl) (fun E C R => ?_)
  show J E G 0 [(0, .ref (jad G 0)), (1, .int (iI (b))), (2, .int (iI (w)))] [] _
  have hn := hk.1
  refine J_aload_n C 0 dX5_place_0 rfl ?_
  refine g_X5_12 hG C dX5_place_1 ?_
  refine J_iload_n C 1 dX5_place_4 rfl ?_
  refine J_callV (k := 1) (rest := []) C (c_isBox hG S (b) (by omega) (by omega)) kc_X4_isBox kl_X5_67 (by rw [hG.2]; decide) (by rw [hG.1]; rfl) rfl dX5_place_5 rfl rfl (by decide) (Nat.le_of_ble_eq_true rfl) (J_ki (fun v1 S1 h1 => ?_))
  obtain ⟨rfl, rfl⟩ := h1
  refine J_if_eq_b C 21 dX5_place_8 (by decide) (fun h2 => ?_) (fun h2 => ?_)
  · refine J_iconst C dX5_place_21 ?_
    exact J_iret R C dX5_place_22 (jPi.mk ⟨by (repeat first | rw [if_pos (by first | omega | assumption)] | rw [if_neg (by first | omega | assumption)]), rfl⟩)
  · refine J_iload_n C 2 dX5_place_11 rfl ?_
    refine J_if_lt C 21 dX5_place_12 (by decide) (by omega) (fun h3 => ?_) (fun h3 => ?_)
    · refine J_iconst C dX5_place_21 ?_
      exact J_iret R C dX5_place_22 (jPi.mk ⟨by (repeat first | rw [if_pos (by first | omega | assumption)] | rw [if_neg (by first | omega | assumption)]), rfl⟩)
    · refine J_iload_n C 2 dX5_place_15 rfl ?_
      refine J_bipush C dX5_place_16 (by decide) ?_
      refine J_icmp_le C 23 dX5_place_18 (by decide) (by omega) (by omega) (fun h4 => ?_) (fun h4 => ?_)
      · refine J_aload_n C 0 dX5_place_23 rfl ?_
        refine g_X5_28 hG C dX5_place_24 ?_
        refine J_iload_n C 1 dX5_place_27 rfl ?_
        refine J_callV (k := 18) (rest := []) C (c_holds hG S (b) hl (by omega)) kc_X2_holds kl_X5_114 (by rw [hG.2]; decide) (by rw [hG.1]; rfl) rfl dX5_place_28 rfl rfl (by decide) (Nat.le_of_ble_eq_true rfl) (J_ki (fun v5 S5 h5 => ?_))
        obtain ⟨rfl, rfl⟩ := h5
        refine J_if_ne_b C 37 dX5_place_31 (by decide) (fun h6 => ?_) (fun h6 => ?_)
        · refine J_iload_n C 2 dX5_place_37 rfl ?_
          refine J_iconst C dX5_place_38 ?_
          refine J_icmp_ge C 56 dX5_place_39 (by decide) (by omega) (by omega) (fun h7 => ?_) (fun h7 => ?_)
          · refine J_iload_n C 2 dX5_place_56 rfl ?_
            refine J_iconst C dX5_place_57 ?_
            refine J_icmp_ne C 73 dX5_place_58 (by decide) (by omega) (by omega) (fun h8 => ?_) (fun h8 => ?_)
            · refine J_aload_n C 0 dX5_place_73 rfl ?_
              refine g_X5_28 hG C dX5_place_74 ?_
              refine J_iload_n C 1 dX5_place_77 rfl ?_
              refine J_iload_n C 2 dX5_place_78 rfl ?_
              refine J_iconst C dX5_place_79 ?_
              refine J_isub C dX5_place_80 ?_
              refine J_callV (k := 18) (rest := []) C (c_extentOf hG S (b) ((w) - (4)) (by omega) (by omega)) kc_X2_extentOf kl_X5_125 (by rw [hG.2]; decide) (by rw [hG.1]; rfl) rfl dX5_place_81 rfl rfl (by decide) (Nat.le_of_ble_eq_true rfl) (J_ki (fun v9 S9 h9 => ?_))
              obtain ⟨rfl, rfl⟩ := h9
              exact J_iret R C dX5_place_84 (jPi.mk ⟨by (repeat first | rw [if_pos (by first | omega | assumption)] | rw [if_neg (by first | omega | assumption)]), rfl⟩)
            · refine J_aload_n C 0 dX5_place_61 rfl ?_
              refine g_X5_28 hG C dX5_place_62 ?_
              refine g_X5_122 hG C dX5_place_65 ?_
              refine J_iload_n C 1 dX5_place_68 rfl ?_
              refine cald hG C 19 8 (by decide) dX5_place_69 (by omega) (by omega) ?_
              refine J_goto C 84 dX5_place_70 (by decide) ?_
              exact J_iret R C dX5_place_84 (jPi.mk ⟨by (repeat first | rw [if_pos (by first | omega | assumption)] | rw [if_neg (by first | omega | assumption)]), rfl⟩)
          · refine J_aload_n C 0 dX5_place_42 rfl ?_
            refine g_X5_28 hG C dX5_place_43 ?_
            refine g_X5_121 hG C dX5_place_46 ?_
            refine J_iload_n C 1 dX5_place_49 rfl ?_
            refine J_iconst C dX5_place_50 ?_
            refine J_imul C dX5_place_51 ?_
            refine J_iload_n C 2 dX5_place_52 rfl ?_
            refine J_iadd C dX5_place_53 ?_
            refine cald hG C 20 24 (by decide) dX5_place_54 (by omega) (by omega) ?_
            exact J_iret R C dX5_place_55 (jPi.mk ⟨by (repeat first | rw [if_pos (by first | omega | assumption)] | rw [if_neg (by first | omega | assumption)]), rfl⟩)
        · refine J_bipush C dX5_place_34 (by decide) ?_
          exact J_iret R C dX5_place_36 (jPi.mk ⟨by (repeat first | rw [if_pos (by first | omega | assumption)] | rw [if_neg (by first | omega | assumption)]), rfl⟩)
      · refine J_iconst C dX5_place_21 ?_
        exact J_iret R C dX5_place_22 (jPi.mk ⟨by (repeat first | rw [if_pos (by first | omega | assumption)] | rw [if_neg (by first | omega | assumption)]), rfl⟩)
theorem c_relative {G : jG} (hG : cG G) (S : jMem) (a b : Int) (hk : cOK S) (hl : lOK S) (ha : inR a) (hb : inR b) : jM G yX5_relative cX5_relative 3 (some .int) 1 23 [.ref (jad G 0), .int (iI (a)), .int (iI (b))] S (jPi (fun v S' => (if (0 ≤ a ∧ a < S 1 4) ∧ (0 ≤ b ∧ b < S 1 4) ∧ ¬ a = b then (if zbit (S 18 4) a ∧ zbit (S 18 4) b then pgap (S 20) (S 21) a b else -2) else -1) = v ∧ S = S')) := by
  refine jM.of (by decide) (Nat.le_of_ble_eq_true rfl) (fun E C R => ?_)
  show J E G 0 [(0, .ref (jad G 0)), (1, .int (iI (a))), (2, .int (iI (b)))] [] _
  have hn := hk.1
  refine J_aload_n C 0 dX5_relative_0 rfl ?_
  refine g_X5_12 hG C dX5_relative_1 ?_
  refine J_iload_n C 1 dX5_relative_4 rfl ?_
  refine J_callV (k := 1) (rest := []) C (c_isBox hG S (a) (by omega) (by omega)) kc_X4_isBox kl_X5_67 (by rw [hG.2]; decide) (by rw [hG.1]; rfl) rfl dX5_relative_5 rfl rfl (by decide) (Nat.le_of_ble_eq_true rfl) (J_ki (fun v1 S1 h1 => ?_))
  obtain ⟨rfl, rfl⟩ := h1
  refine J_if_eq_b C 27 dX5_relative_8 (by decide) (fun h2 => ?_) (fun h2 => ?_)
  · refine J_iconst C dX5_relative_27 ?_
    exact J_iret R C dX5_relative_28 (jPi.mk ⟨by first | rw [if_neg (by omega)] | rw [if_pos (by omega), if_pos ⟨by assumption, by assumption⟩] | rw [if_pos (by omega), if_neg (fun q => by first | exact absurd q.1 (by assumption) | exact absurd q.2 (by assumption))], rfl⟩)
  · refine J_aload_n C 0 dX5_relative_11 rfl ?_
    refine g_X5_12 hG C dX5_relative_12 ?_
    refine J_iload_n C 2 dX5_relative_15 rfl ?_
    refine J_callV (k := 1) (rest := []) C (c_isBox hG S (b) (by omega) (by omega)) kc_X4_isBox kl_X5_67 (by rw [hG.2]; decide) (by rw [hG.1]; rfl) rfl dX5_relative_16 rfl rfl (by decide) (Nat.le_of_ble_eq_true rfl) (J_ki (fun v3 S3 h3 => ?_))
    obtain ⟨rfl, rfl⟩ := h3
    refine J_if_eq_b C 27 dX5_relative_19 (by decide) (fun h4 => ?_) (fun h4 => ?_)
    · refine J_iconst C dX5_relative_27 ?_
      exact J_iret R C dX5_relative_28 (jPi.mk ⟨by first | rw [if_neg (by omega)] | rw [if_pos (by omega), if_pos ⟨by assumption, by assumption⟩] | rw [if_pos (by omega), if_neg (fun q => by first | exact absurd q.1 (by assumption) | exact absurd q.2 (by assumption))], rfl⟩)
    · refine J_iload_n C 1 dX5_relative_22 rfl ?_
      refine J_iload_n C 2 dX5_relative_23 rfl ?_
      refine J_icmp_ne C 29 dX5_relative_24 (by decide) (by omega) (by omega) (fun h5 => ?_) (fun h5 => ?_)
      · refine J_aload_n C 0 dX5_relative_29 rfl ?_
        refine g_X5_28 hG C dX5_relative_30 ?_
        refine J_iload_n C 1 dX5_relative_33 rfl ?_
        refine J_callV (k := 18) (rest := []) C (c_holds hG S (a) hl (by omega)) kc_X2_holds kl_X5_114 (by rw [hG.2]; decide) (by rw [hG.1]; rfl) rfl dX5_relative_34 rfl rfl (by decide) (Nat.le_of_ble_eq_true rfl) (J_ki (fun v6 S6 h6 => ?_))
        obtain ⟨rfl, rfl⟩ := h6
        refine J_if_eq_b C 51 dX5_relative_37 (by decide) (fun h7 => ?_) (fun h7 => ?_)
        · refine J_bipush C dX5_relative_51 (by decide) ?_
          exact J_iret R C dX5_relative_53 (jPi.mk ⟨by first | rw [if_neg (by omega)] | rw [if_pos (by omega), if_pos ⟨by assumption, by assumption⟩] | rw [if_pos (by omega), if_neg (fun q => by first | exact absurd q.1 (by assumption) | exact absurd q.2 (by assumption))], rfl⟩)
        · refine J_aload_n C 0 dX5_relative_40 rfl ?_
          refine g_X5_28 hG C dX5_relative_41 ?_
          refine J_iload_n C 2 dX5_relative_44 rfl ?_
          refine J_callV (k := 18) (rest := []) C (c_holds hG S (b) hl (by omega)) kc_X2_holds kl_X5_114 (by rw [hG.2]; decide) (by rw [hG.1]; rfl) rfl dX5_relative_45 rfl rfl (by decide) (Nat.le_of_ble_eq_true rfl) (J_ki (fun v8 S8 h8 => ?_))
          obtain ⟨rfl, rfl⟩ := h8
          refine J_if_ne_b C 54 dX5_relative_48 (by decide) (fun h9 => ?_) (fun h9 => ?_)
          · refine J_aload_n C 0 dX5_relative_54 rfl ?_
            refine g_X5_28 hG C dX5_relative_55 ?_
            refine J_iload_n C 1 dX5_relative_58 rfl ?_
            refine J_iload_n C 2 dX5_relative_59 rfl ?_
            refine J_callV (k := 18) (rest := []) C (c_firstGap hG S (a) (b) hl (by omega) (by omega)) kc_X2_firstGap kl_X5_128 (by rw [hG.2]; decide) (by rw [hG.1]; rfl) rfl dX5_relative_60 rfl rfl (by decide) (Nat.le_of_ble_eq_true rfl) (J_ki (fun v10 S10 h10 => ?_))
            obtain ⟨rfl, rfl⟩ := h10
            have q1 := pgap_in (S 20) (S 21) (a) (b)
            exact J_iret R C dX5_relative_63 (jPi.mk ⟨by first | rw [if_neg (by omega)] | rw [if_pos (by omega), if_pos ⟨by assumption, by assumption⟩] | rw [if_pos (by omega), if_neg (fun q => by first | exact absurd q.1 (by assumption) | exact absurd q.2 (by assumption))], rfl⟩)
          · refine J_bipush C dX5_relative_51 (by decide) ?_
            exact J_iret R C dX5_relative_53 (jPi.mk ⟨by first | rw [if_neg (by omega)] | rw [if_pos (by omega), if_pos ⟨by assumption, by assumption⟩] | rw [if_pos (by omega), if_neg (fun q => by first | exact absurd q.1 (by assumption) | exact absurd q.2 (by assumption))], rfl⟩)
      · refine J_iconst C dX5_relative_27 ?_
        exact J_iret R C dX5_relative_28 (jPi.mk ⟨by first | rw [if_neg (by omega)] | rw [if_pos (by omega), if_pos ⟨by assumption, by assumption⟩] | rw [if_pos (by omega), if_neg (fun q => by first | exact absurd q.1 (by assumption) | exact absurd q.2 (by assumption))], rfl⟩)
theorem c_support {G : jG} (hG : cG G) (S : jMem) (b : Int) (hk : cOK S) (hl : lOK S) (hb : inR b) : jM G yX5_support cX5_support 2 (some .int) 3 70 [.ref (jad G 0), .int (iI (b))] S (jPi (fun v S' => (if 0 ≤ b ∧ b < S 1 4 then (if zbit (S 18 4) b then (if S 20 (b * 3 + 2) = 0 then (S 21 (b * 3 + 0) - S 20 (b * 3 + 0)) * (S 21 (b * 3 + 1) - S 20 (b * 3 + 1)) else isum (pheld (S 18 4) (S 20) (S 21) b) 0 (8 - 0 : Int).toNat) else -2) else -1) = v ∧ S = S')) := by
  refine jM.of (by decide) (Nat.le_of_ble_eq_true rfl) (fun E C R => ?_)
  show J E G 0 [(0, .ref (jad G 0)), (1, .int (iI (b)))] [] _
  have hn := hk.1
  refine J_aload_n C 0 dX5_support_0 rfl ?_
  refine g_X5_12 hG C dX5_support_1 ?_
  refine J_iload_n C 1 dX5_support_4 rfl ?_
  refine J_callV (k := 1) (rest := []) C (c_isBox hG S (b) (by omega) (by omega)) kc_X4_isBox kl_X5_67 (by rw [hG.2]; decide) (by rw [hG.1]; rfl) rfl dX5_support_5 rfl rfl (by decide) (Nat.le_of_ble_eq_true rfl) (J_ki (fun v1 S1 h1 => ?_))
  obtain ⟨rfl, rfl⟩ := h1
  refine J_if_ne_b C 13 dX5_support_8 (by decide) (fun h2 => ?_) (fun h2 => ?_)
  · refine J_aload_n C 0 dX5_support_13 rfl ?_
    refine g_X5_28 hG C dX5_support_14 ?_
    refine J_iload_n C 1 dX5_support_17 rfl ?_
    refine J_callV (k := 18) (rest := []) C (c_holds hG S (b) hl (by omega)) kc_X2_holds kl_X5_114 (by rw [hG.2]; decide) (by rw [hG.1]; rfl) rfl dX5_support_18 rfl rfl (by decide) (Nat.le_of_ble_eq_true rfl) (J_ki (fun v3 S3 h3 => ?_))
    obtain ⟨rfl, rfl⟩ := h3
    refine J_if_eq_b C 35 dX5_support_21 (by decide) (fun h4 => ?_) (fun h4 => ?_)
    · refine J_bipush C dX5_support_35 (by decide) ?_
      exact J_iret R C dX5_support_37 (jPi.mk ⟨by first | rw [if_neg (by omega)] | rw [if_pos (by omega), if_pos (by assumption)] | rw [if_pos (by omega), if_neg (by assumption)], rfl⟩)
    · refine J_aload_n C 0 dX5_support_24 rfl ?_
      refine g_X5_28 hG C dX5_support_25 ?_
      refine J_iload_n C 1 dX5_support_28 rfl ?_
      refine J_callV (k := 18) (rest := []) C (c_held hG S (b) hl (by omega)) kc_X2_heldArea kl_X5_131 (by rw [hG.2]; decide) (by rw [hG.1]; rfl) rfl dX5_support_29 rfl rfl (by decide) (Nat.le_of_ble_eq_true rfl) (J_ki (fun v5 S5 h5 => ?_))
      obtain ⟨rfl, rfl⟩ := h5
      refine J_goto C 37 dX5_support_32 (by decide) ?_
      exact J_iret R C dX5_support_37 (jPi.mk ⟨by first | rw [if_neg (by omega)] | rw [if_pos (by omega), if_pos (by assumption)] | rw [if_pos (by omega), if_neg (by assumption)], rfl⟩)
  · refine J_iconst C dX5_support_11 ?_
    exact J_iret R C dX5_support_12 (jPi.mk ⟨by first | rw [if_neg (by omega)] | rw [if_pos (by omega), if_pos (by assumption)] | rw [if_pos (by omega), if_neg (by assumption)], rfl⟩)
theorem c_dual {G : jG} (hG : cG G) (S : jMem) (a n x : Int) (hk : cOK S) (ha : inR a) (hn : inR n) (hx : inR x) : jM G yX5_dual cX5_dual 4 (some .int) 2 43 [.ref (jad G 0), .int (iI (a)), .int (iI (n)), .int (iI (x))] S (jPi (fun v S' => (if (0 ≤ a ∧ a ≤ 2) ∧ (0 ≤ n ∧ n ≤ S 2 a / 2 * 2) ∧ (0 ≤ x ∧ x ≤ S 2 a) then pworth (S 2 a) n x else -1) = v ∧ S = S')) := by
  refine jM.of (by decide) (Nat.le_of_ble_eq_true rfl) (fun E C R => ?_)
  show J E G 0 [(0, .ref (jad G 0)), (1, .int (iI (a))), (2, .int (iI (n))), (3, .int (iI (x)))] [] _
  refine J_iload_n C 1 dX5_dual_0 rfl ?_
  refine J_callS (rest := []) C (c_isAxis hG S (a) (by omega)) kc_X5_isAxis kl_X5_134 dX5_dual_1 rfl rfl (by decide) (Nat.le_of_ble_eq_true rfl) (J_ki (fun v1 S1 h1 => ?_))
  obtain ⟨rfl, rfl⟩ := h1
  refine J_if_eq_b C 36 dX5_dual_4 (by decide) (fun h2 => ?_) (fun h2 => ?_)
  · refine J_iconst C dX5_dual_36 ?_
    exact J_iret R C dX5_dual_37 (jPi.mk ⟨by first | rw [if_pos (by omega)] | rw [if_neg (by omega)], rfl⟩)
  · refine J_aload_n C 0 dX5_dual_7 rfl ?_
    refine g_X5_44 hG C dX5_dual_8 ?_
    refine J_iload_n C 1 dX5_dual_11 rfl ?_
    refine J_iload_n C 2 dX5_dual_12 rfl ?_
    refine J_callV (k := 25) (rest := []) C (c_isF hG S (a) (n) hk (by omega) (by omega)) kc_X1_isFunction kl_X5_152 (by rw [hG.2]; decide) (by rw [hG.1]; rfl) rfl dX5_dual_13 rfl rfl (by decide) (Nat.le_of_ble_eq_true rfl) (J_ki (fun v3 S3 h3 => ?_))
    obtain ⟨rfl, rfl⟩ := h3
    have q2 := hk.2.1 (a) (by omega) (by omega)
    refine J_if_eq_b C 36 dX5_dual_16 (by decide) (fun h4 => ?_) (fun h4 => ?_)
    · refine J_iconst C dX5_dual_36 ?_
      exact J_iret R C dX5_dual_37 (jPi.mk ⟨by first | rw [if_pos (by omega)] | rw [if_neg (by omega)], rfl⟩)
    · refine J_iload_n C 3 dX5_dual_19 rfl ?_
      refine J_if_lt C 36 dX5_dual_20 (by decide) (by omega) (fun h5 => ?_) (fun h5 => ?_)
      · refine J_iconst C dX5_dual_36 ?_
        exact J_iret R C dX5_dual_37 (jPi.mk ⟨by first | rw [if_pos (by omega)] | rw [if_neg (by omega)], rfl⟩)
      · refine J_iload_n C 3 dX5_dual_23 rfl ?_
        refine J_aload_n C 0 dX5_dual_24 rfl ?_
        refine g_X5_12 hG C dX5_dual_25 ?_
        refine g_X5_55 hG C dX5_dual_28 ?_
        refine J_iload_n C 1 dX5_dual_31 rfl ?_
        refine cald hG C 2 3 (by decide) dX5_dual_32 (by omega) (by omega) ?_
        have m6 := hk.2.1 (a) (by omega) (by omega)
        refine J_icmp_le C 38 dX5_dual_33 (by decide) (by omega) (by omega) (fun h7 => ?_) (fun h7 => ?_)
        · refine J_aload_n C 0 dX5_dual_38 rfl ?_
          refine g_X5_12 hG C dX5_dual_39 ?_
          refine g_X5_55 hG C dX5_dual_42 ?_
          refine J_iload_n C 1 dX5_dual_45 rfl ?_
          refine cald hG C 2 3 (by decide) dX5_dual_46 (by omega) (by omega) ?_
          have m8 := hk.2.1 (a) (by omega) (by omega)
          refine J_iload_n C 2 dX5_dual_47 rfl ?_
          refine J_iload_n C 3 dX5_dual_48 rfl ?_
          refine J_callS (rest := []) C (c_valueOf hG S (S 2 (a)) (n) (x) (by omega) (by omega) (by omega)) kc_X1_valueOf kl_X5_156 dX5_dual_49 rfl rfl (by decide) (Nat.le_of_ble_eq_true rfl) (J_ki (fun v9 S9 h9 => ?_))
          obtain ⟨rfl, rfl⟩ := h9
          exact J_iret R C dX5_dual_52 (jPi.mk ⟨by first | rw [if_pos (by omega)] | rw [if_neg (by omega)], rfl⟩)
        · refine J_iconst C dX5_dual_36 ?_
          exact J_iret R C dX5_dual_37 (jPi.mk ⟨by first | rw [if_pos (by omega)] | rw [if_neg (by omega)], rfl⟩)
theorem c_proof {G : jG} (hG : cG G) (S0 : jMem) (w : Int) (hk : cOK S0) (hw : inR w) (hp : S0 25 8 = 0 ∨ (S0 25 8 = 1 ∧ dOK S0)) (hs : S0 25 9 = 0 ∨ (S0 25 9 = 1 ∧ isProof (S0 1 4) (S0 2) (S0 3) (S0 4) (S0 26))) : jM G yX5_proof cX5_proof 2 (some .int) 6 140 [.ref (jad G 0), .int (iI (w))] S0 (jPi (fun v S' => if 0 ≤ w ∧ w ≤ 3 then (keeps [25, 26, 27, 28, 29, 30, 31] S0 S' ∧ (S' 25 8 = 0 ∨ (S' 25 8 = 1 ∧ dOK S')) ∧ S' 25 9 = 1 ∧ isProof (S' 1 4) (S' 2) (S' 3) (S' 4) (S' 26)) ∧ v = S' 26 w else v = -1 ∧ S' = S0)) := by
  refine jM.of (by decide) (Nat.le_of_ble_eq_true rfl) (fun E C R => ?_)
  show J E G 0 [(0, .ref (jad G 0)), (1, .int (iI (w)))] [] _
  refine J_iload_n C 1 dX5_proof_0 rfl ?_
  refine J_if_lt C 9 dX5_proof_1 (by decide) (by omega) (fun h1 => ?_) (fun h1 => ?_)
  · refine J_iconst C dX5_proof_9 ?_
    exact J_iret R C dX5_proof_10 (jPi.mk (by rw [if_neg (by omega)]; exact ⟨rfl, rfl⟩))
  · refine J_iload_n C 1 dX5_proof_4 rfl ?_
    refine J_iconst C dX5_proof_5 ?_
    refine J_icmp_le C 11 dX5_proof_6 (by decide) (by omega) (by omega) (fun h2 => ?_) (fun h2 => ?_)
    · refine J_aload_n C 0 dX5_proof_11 rfl ?_
      refine g_X5_44 hG C dX5_proof_12 ?_
      refine J_callV (k := 25) (rest := []) C (c_seekProof hG S0 hk hp hs) kc_X1_seekProof kl_X5_178 (by rw [hG.2]; decide) (by rw [hG.1]; rfl) rfl dX5_proof_15 rfl rfl (by decide) (Nat.le_of_ble_eq_true rfl) (J_kv (fun S3 h3 => ?_))
      have hSk := h3
      refine J_aload_n C 0 dX5_proof_18 rfl ?_
      refine g_X5_44 hG C dX5_proof_19 ?_
      refine g_X5_181 hG C dX5_proof_22 ?_
      refine J_iload_n C 1 dX5_proof_25 rfl ?_
      refine cald hG C 26 4 (by decide) dX5_proof_26 (by omega) (by omega) ?_
      exact J_iret R C dX5_proof_27 (jPi.mk (by rw [if_pos (by omega)]; exact ⟨hSk, rfl⟩))
    · refine J_iconst C dX5_proof_9 ?_
      exact J_iret R C dX5_proof_10 (jPi.mk (by rw [if_neg (by omega)]; exact ⟨rfl, rfl⟩))
def cNd (S0 S : jMem) : Prop := keeps [25, 27, 28, 29, 30] S0 S ∧ (S 25 8 = 1 ∧ dOK S) ∧ S 25 9 = S0 25 9
theorem cNd.mk {S0 S1 S2 : jMem} {x : Int} (k1 : keeps [25, 27, 28, 29] S0 S1) (k2 : keeps [25, 30] S1 S2) (e1 : ∀ j, S1 25 j = if j = 8 then 1 else S0 25 j) (e2 : ∀ j, S2 25 j = if j = 6 then x else S1 25 j) (hd : dOK S2) : cNd S0 S2 := by
  refine ⟨(k1.wide (by decide)).tr (k2.wide (by decide)), ⟨?_, hd⟩, ?_⟩
  · rw [e2, if_neg (by decide), e1, if_pos rfl]
  · rw [e2, if_neg (by decide), e1, if_neg (by decide)]
theorem c_need {G : jG} (hG : cG G) (S0 : jMem) (n0 n1 n2 w : Int) (hk : cOK S0) (h0 : inR n0) (h1 : inR n1) (h2 : inR n2) (hw : inR w) (hp : S0 25 8 = 0 ∨ (S0 25 8 = 1 ∧ dOK S0)) : jM G yX5_need cX5_need 5 (some .long) 5 116 [.ref (jad G 0), .int (iI (n0)), .int (iI (n1)), .int (iI (n2)), .int (iI (w))] S0 (jPl (fun v S' => if (0 ≤ n0 ∧ n0 ≤ S0 2 0 / 2 * 2) ∧ (0 ≤ n1 ∧ n1 ≤ S0 2 1 / 2 * 2) ∧ (0 ≤ n2 ∧ n2 ≤ S0 2 2 / 2 * 2) ∧ (0 ≤ w ∧ w ≤ 1) then (if w = 1 then phas3 (S0 2) n0 n1 n2 else pneed (S0 1 4) (S0 2) (S0 3) (S0 4) n0 n1 n2 (pall (S0 1 4))) = v ∧ cNd S0 S' else v = -1 ∧ S' = S0)) := by
  refine jM.of (by decide) (Nat.le_of_ble_eq_true rfl) (fun E C R => ?_)
  show J E G 0 [(0, .ref (jad G 0)), (1, .int (iI (n0))), (2, .int (iI (n1))), (3, .int (iI (n2))), (4, .int (iI (w)))] [] _
  have l0 := hk.2.1 0 (by omega) (by omega)
  have l1 := hk.2.1 1 (by omega) (by omega)
  have l2 := hk.2.1 2 (by omega) (by omega)
  refine J_iload C 4 dX5_need_0 rfl ?_
  refine J_if_lt C 11 dX5_need_2 (by decide) (by omega) (fun h1 => ?_) (fun h1 => ?_)
  · refine J_ldc2 (n := -1) C kk_X5_160 dX5_need_11 ?_
    exact J_lret R C dX5_need_14 (jPl.mk (by rw [if_neg (by omega)]; exact ⟨rfl, rfl⟩))
  · refine J_iload C 4 dX5_need_5 rfl ?_
    refine J_iconst C dX5_need_7 ?_
    refine J_icmp_le C 15 dX5_need_8 (by decide) (by omega) (by omega) (fun h2 => ?_) (fun h2 => ?_)
    · refine J_aload_n C 0 dX5_need_15 rfl ?_
      refine g_X5_44 hG C dX5_need_16 ?_
      refine J_iconst C dX5_need_19 ?_
      refine J_iload_n C 1 dX5_need_20 rfl ?_
      refine J_callV (k := 25) (rest := []) C (c_isF hG S0 (0) (n0) hk (by omega) (by omega)) kc_X1_isFunction kl_X5_152 (by rw [hG.2]; decide) (by rw [hG.1]; rfl) rfl dX5_need_21 rfl rfl (by decide) (Nat.le_of_ble_eq_true rfl) (J_ki (fun v3 S3 h3 => ?_))
      obtain ⟨rfl, rfl⟩ := h3
      have q3 := hk.2.1 (0) (by omega) (by omega)
      refine J_if_eq_b C 51 dX5_need_24 (by decide) (fun h4 => ?_) (fun h4 => ?_)
      · refine J_ldc2 (n := -1) C kk_X5_160 dX5_need_51 ?_
        exact J_lret R C dX5_need_54 (jPl.mk (by rw [if_neg (by omega)]; exact ⟨rfl, rfl⟩))
      · refine J_aload_n C 0 dX5_need_27 rfl ?_
        refine g_X5_44 hG C dX5_need_28 ?_
        refine J_iconst C dX5_need_31 ?_
        refine J_iload_n C 2 dX5_need_32 rfl ?_
        refine J_callV (k := 25) (rest := []) C (c_isF hG S0 (1) (n1) hk (by omega) (by omega)) kc_X1_isFunction kl_X5_152 (by rw [hG.2]; decide) (by rw [hG.1]; rfl) rfl dX5_need_33 rfl rfl (by decide) (Nat.le_of_ble_eq_true rfl) (J_ki (fun v5 S5 h5 => ?_))
        obtain ⟨rfl, rfl⟩ := h5
        have q4 := hk.2.1 (1) (by omega) (by omega)
        refine J_if_eq_b C 51 dX5_need_36 (by decide) (fun h6 => ?_) (fun h6 => ?_)
        · refine J_ldc2 (n := -1) C kk_X5_160 dX5_need_51 ?_
          exact J_lret R C dX5_need_54 (jPl.mk (by rw [if_neg (by omega)]; exact ⟨rfl, rfl⟩))
        · refine J_aload_n C 0 dX5_need_39 rfl ?_
          refine g_X5_44 hG C dX5_need_40 ?_
          refine J_iconst C dX5_need_43 ?_
          refine J_iload_n C 3 dX5_need_44 rfl ?_
          refine J_callV (k := 25) (rest := []) C (c_isF hG S0 (2) (n2) hk (by omega) (by omega)) kc_X1_isFunction kl_X5_152 (by rw [hG.2]; decide) (by rw [hG.1]; rfl) rfl dX5_need_45 rfl rfl (by decide) (Nat.le_of_ble_eq_true rfl) (J_ki (fun v7 S7 h7 => ?_))
          obtain ⟨rfl, rfl⟩ := h7
          have q5 := hk.2.1 (2) (by omega) (by omega)
          refine J_if_ne_b C 55 dX5_need_48 (by decide) (fun h8 => ?_) (fun h8 => ?_)
          · refine J_aload_n C 0 dX5_need_55 rfl ?_
            refine g_X5_44 hG C dX5_need_56 ?_
            refine J_callV (k := 25) (rest := []) C (c_prepare hG S0 hk hp) kc_X1_prepare kl_X5_162 (by rw [hG.2]; decide) (by rw [hG.1]; rfl) rfl dX5_need_59 rfl rfl (by decide) (Nat.le_of_ble_eq_true rfl) (J_kv (fun S9 h9 => ?_))
            obtain ⟨hd1, k1, e25⟩ := h9
            have hk1 : cOK S9 := k1.ok (by decide) hk
            have c21 : S9 2 = S0 2 := k1 2 (by decide)
            refine J_aload_n C 0 dX5_need_62 rfl ?_
            refine g_X5_44 hG C dX5_need_63 ?_
            refine J_iload_n C 1 dX5_need_66 rfl ?_
            refine J_iload_n C 2 dX5_need_67 rfl ?_
            refine J_callV (k := 25) (rest := []) C (c_choose hG S9 (n0) (n1) hk1 hd1 (by unfold isFn; rw [c21]; omega) (by unfold isFn; rw [c21]; omega)) kc_X1_choose kl_X5_165 (by rw [hG.2]; decide) (by rw [hG.1]; rfl) rfl dX5_need_68 rfl rfl (by decide) (Nat.le_of_ble_eq_true rfl) (J_kv (fun S10 h10 => ?_))
            obtain ⟨k2, f25, hao⟩ := h10
            have hk2 : cOK S10 := k2.ok (by decide) hk1
            have hd2 : dOK S10 := hd1.keeps k2 (by decide)
            have c22 : S10 2 = S0 2 := by rw [k2 2 (by decide), c21]
            have c2n : S10 1 = S0 1 := by rw [k2 1 (by decide), k1 1 (by decide)]
            have c23 : S10 3 = S0 3 := by rw [k2 3 (by decide), k1 3 (by decide)]
            have c24 : S10 4 = S0 4 := by rw [k2 4 (by decide), k1 4 (by decide)]
            have g0 : isFn S10 0 n0 := by unfold isFn; rw [c22]; omega
            have g1 : isFn S10 1 n1 := by unfold isFn; rw [c22]; omega
            have g2 : isFn S10 2 n2 := by unfold isFn; rw [c22]; omega
            have hni := need_in (m := 1 * 2 ^ (S10 1 4).toNat - 1) hk2 g0 g1 g2
            have hhi := has_in hk2.2.1 g0 g1 g2
            have hpi := pall_in hk2.1
            have hE : cNd S0 S10 := cNd.mk k1 k2 e25 f25 hd2
            refine J_iload C 4 dX5_need_71 rfl ?_
            refine J_if_ne C 95 dX5_need_73 (by decide) (by omega) (fun h11 => ?_) (fun h11 => ?_)
            · refine J_aload_n C 0 dX5_need_95 rfl ?_
              refine g_X5_44 hG C dX5_need_96 ?_
              refine J_iload_n C 3 dX5_need_99 rfl ?_
              refine J_callV (k := 25) (rest := []) C (c_binHas hG S10 (n2) hk2 (by omega)) kc_X1_binHas kl_X5_175 (by rw [hG.2]; decide) (by rw [hG.1]; rfl) rfl dX5_need_100 rfl rfl (by decide) (Nat.le_of_ble_eq_true rfl) (J_ki (fun v12 S12 h12 => ?_))
              obtain ⟨rfl, rfl⟩ := h12
              refine J_top (b := phas3 (S10 2) n0 n1 n2) (by rw [show (2 : Int) * 21 + n2 = 42 + n2 by omega, hao.1, v2 hd2.1.2.2 g2 (by omega)]; rfl) ?_
              refine J_i2l C dX5_need_103 (by omega) ?_
              exact J_lret R C dX5_need_104 (jPl.mk (by rw [if_pos (by omega)]; refine ⟨?_, hE⟩; rw [if_pos (by omega), c22]))
            · refine J_aload_n C 0 dX5_need_76 rfl ?_
              refine g_X5_44 hG C dX5_need_77 ?_
              refine J_aload_n C 0 dX5_need_80 rfl ?_
              refine g_X5_12 hG C dX5_need_81 ?_
              refine J_callV (k := 1) (rest := [.ref (jad G 25)]) C (c_allBoxes hG S10 hk2.1) kc_X4_allBoxes kl_X5_169 (by rw [hG.2]; decide) (by rw [hG.1]; rfl) rfl dX5_need_84 rfl rfl (by decide) (Nat.le_of_ble_eq_true rfl) (J_ki (fun v13 S13 h13 => ?_))
              obtain ⟨rfl, rfl⟩ := h13
              refine J_iload_n C 3 dX5_need_87 rfl ?_
              refine J_callV (k := 25) (rest := []) C (c_needOf hG S10 n0 n1 (n2) (1 * 2 ^ (S10 1 4).toNat - 1) hk2 hd2 hao g0 g1 g2 (by omega)) kc_X1_needOf kl_X5_172 (by rw [hG.2]; decide) (by rw [hG.1]; rfl) rfl dX5_need_88 rfl rfl (by decide) (Nat.le_of_ble_eq_true rfl) (J_ki (fun v14 S14 h14 => ?_))
              obtain ⟨rfl, rfl⟩ := h14
              refine J_i2l C dX5_need_91 (by omega) ?_
              refine J_goto C 104 dX5_need_92 (by decide) ?_
              exact J_lret R C dX5_need_104 (jPl.mk (by rw [if_pos (by omega)]; refine ⟨?_, hE⟩; rw [if_neg (by omega), c22, c2n, c23, c24]))
          · refine J_ldc2 (n := -1) C kk_X5_160 dX5_need_51 ?_
            exact J_lret R C dX5_need_54 (jPl.mk (by rw [if_neg (by omega)]; exact ⟨rfl, rfl⟩))
    · refine J_ldc2 (n := -1) C kk_X5_160 dX5_need_11 ?_
      exact J_lret R C dX5_need_14 (jPl.mk (by rw [if_neg (by omega)]; exact ⟨rfl, rfl⟩))
def noI (S : jMem) (b t x y z k : Int) : Prop := ∀ o, 0 ≤ o → o < k → o ≠ b → proom (S 2) (S 3) (S 4) o b t x y z
theorem noI.no {S : jMem} {b t x y z k : Int} (h : noI S b t x y z k) (hk : S 1 4 ≤ k) : ¬ (∃ o, (0 ≤ o ∧ o < S 1 4) ∧ o ≠ b ∧ ¬ proom (S 2) (S 3) (S 4) o b t x y z) := fun ⟨o, o1, o2, o3⟩ => o3 (h o o1.1 (by omega) o2)
theorem noI.s {S : jMem} {b t x y z k : Int} (h : noI S b t x y z k) (hk : k = b ∨ proom (S 2) (S 3) (S 4) k b t x y z) : noI S b t x y z (k + 1) := fun o o1 o2 o3 => by
  by_cases e : o = k
  · subst e; exact hk.resolve_left o3
  · exact h o o1 (by omega) o3
theorem l_none {E : jEnv} {G : jG} (hG : cG G) (C : jX E G cX5_none 7 RX5 4 99) (S : jMem) (b t x y z : Int) (hk : cOK S) (hpl : pplace (S 1 4) (S 2) (S 3) (S 4) b t x y z) (R : jR E G (some .int) (jPi (fun v S' => bb (∃ o, (0 ≤ o ∧ o < S 1 4) ∧ o ≠ b ∧ ¬ proom (S 2) (S 3) (S 4) o b t x y z) = v ∧ S = S'))) : ∀ (mm : Nat) (k : Int), mm = (S 1 4 - k).toNat → ((0 ≤ k ∧ k ≤ S 1 4) ∧ noI S b t x y z k) → J E G 22 [(0, .ref (jad G 0)), (1, .int (iI (b))), (2, .int (iI (t))), (3, .int (iI (x))), (4, .int (iI (y))), (5, .int (iI (z))), (6, .int (iI (k)))] [] S := by
  intro mm
  induction mm using Nat.strongRecOn with | ind mm ih => ?_
  intro k hm hi
  obtain ⟨hkk, hj⟩ := hi
  have hn := hk.1
  have hpi := place_in hk hpl
  have hp1 := hpl.1
  have hp2 := hpl.2.1
  have x0 := pext_in hk (b := b) (t := t) (a := 0) (by omega) (by omega)
  have x1 := pext_in hk (b := b) (t := t) (a := 1) (by omega) (by omega)
  have x2 := pext_in hk (b := b) (t := t) (a := 2) (by omega) (by omega)
  refine J_iload C 6 dX5_none_22 rfl ?_
  refine J_aload_n C 0 dX5_none_24 rfl ?_
  refine g_X5_12 hG C dX5_none_25 ?_
  refine g_X5_59 hG C dX5_none_28 ?_
  refine J_icmp_ge C 67 dX5_none_31 (by decide) (by omega) (by omega) (fun h1 => ?_) (fun h1 => ?_)
  · refine J_iconst C dX5_none_67 ?_
    exact J_iret R C dX5_none_68 (jPi.mk ⟨bb_f (hj.no (by omega)), rfl⟩)
  · refine J_iload C 6 dX5_none_34 rfl ?_
    refine J_iload_n C 1 dX5_none_36 rfl ?_
    refine J_icmp_eq C 61 dX5_none_37 (by decide) (by omega) (by omega) (fun h2 => ?_) (fun h2 => ?_)
    · refine J_iinc (lv' := [(6, .int (iI (k + 1))), (0, .ref (jad G 0)), (1, .int (iI (b))), (2, .int (iI (t))), (3, .int (iI (x))), (4, .int (iI (y))), (5, .int (iI (z)))]) C 6 dX5_none_61 rfl (by decide) rfl ?_
      refine J_goto C 22 dX5_none_64 (by decide) ?_
      refine J_lv [1, 2, 3, 4, 5, 6, 0] rfl ?_
      exact ih _ (by omega) (k + 1) rfl ⟨by omega, hj.s (by first | exact Or.inl (by assumption) | exact Or.inr (by assumption))⟩
    · refine J_aload_n C 0 dX5_none_40 rfl ?_
      refine g_X5_12 hG C dX5_none_41 ?_
      refine J_iload C 6 dX5_none_44 rfl ?_
      refine J_iload_n C 1 dX5_none_46 rfl ?_
      refine J_iload_n C 2 dX5_none_47 rfl ?_
      refine J_iload_n C 3 dX5_none_48 rfl ?_
      refine J_iload C 4 dX5_none_49 rfl ?_
      refine J_iload C 5 dX5_none_51 rfl ?_
      refine J_callV (k := 1) (rest := []) C (c_hasRoom hG S (k) (b) (t) (x) (y) (z) hk (by omega) (by omega) (by omega) (by omega) (by omega) (by omega)) kc_X4_hasRoomBeside kl_X5_184 (by rw [hG.2]; decide) (by rw [hG.1]; rfl) rfl dX5_none_53 rfl rfl (by decide) (Nat.le_of_ble_eq_true rfl) (J_ki (fun v3 S3 h3 => ?_))
      obtain ⟨rfl, rfl⟩ := h3
      refine J_if_ne_b C 61 dX5_none_56 (by decide) (fun h4 => ?_) (fun h4 => ?_)
      · refine J_iinc (lv' := [(6, .int (iI (k + 1))), (0, .ref (jad G 0)), (1, .int (iI (b))), (2, .int (iI (t))), (3, .int (iI (x))), (4, .int (iI (y))), (5, .int (iI (z)))]) C 6 dX5_none_61 rfl (by decide) rfl ?_
        refine J_goto C 22 dX5_none_64 (by decide) ?_
        refine J_lv [1, 2, 3, 4, 5, 6, 0] rfl ?_
        exact ih _ (by omega) (k + 1) rfl ⟨by omega, hj.s (by first | exact Or.inl (by assumption) | exact Or.inr (by assumption))⟩
      · refine J_iconst C dX5_none_59 ?_
        exact J_iret R C dX5_none_60 (jPi.mk ⟨bb_t ⟨k, by omega, by assumption, by assumption⟩, rfl⟩)
theorem c_none {G : jG} (hG : cG G) (S : jMem) (b t x y z : Int) (hk : cOK S) (hb : inR b) (ht : inR t) (hx : inR x) (hy : inR y) (hz : inR z) : jM G yX5_none cX5_none 7 (some .int) 4 99 [.ref (jad G 0), .int (iI (b)), .int (iI (t)), .int (iI (x)), .int (iI (y)), .int (iI (z))] S (jPi (fun v S' => @ite Int (pplace (S 1 4) (S 2) (S 3) (S 4) b t x y z) (Classical.propDecidable _) (bb (∃ o, (0 ≤ o ∧ o < S 1 4) ∧ o ≠ b ∧ ¬ proom (S 2) (S 3) (S 4) o b t x y z)) (-1) = v ∧ S = S')) := by
  refine jM.of (by decide) (Nat.le_of_ble_eq_true rfl) (fun E C R => ?_)
  show J E G 0 [(0, .ref (jad G 0)), (1, .int (iI (b))), (2, .int (iI (t))), (3, .int (iI (x))), (4, .int (iI (y))), (5, .int (iI (z)))] [] _
  have hn := hk.1
  refine J_aload_n C 0 dX5_none_0 rfl ?_
  refine g_X5_12 hG C dX5_none_1 ?_
  refine J_iload_n C 1 dX5_none_4 rfl ?_
  refine J_iload_n C 2 dX5_none_5 rfl ?_
  refine J_iload_n C 3 dX5_none_6 rfl ?_
  refine J_iload C 4 dX5_none_7 rfl ?_
  refine J_iload C 5 dX5_none_9 rfl ?_
  refine J_callV (k := 1) (rest := []) C (c_isPlace hG S (b) (t) (x) (y) (z) hk (by omega) (by omega) (by omega) (by omega) (by omega)) kc_X4_isPlace kl_X5_106 (by rw [hG.2]; decide) (by rw [hG.1]; rfl) rfl dX5_none_11 rfl rfl (by decide) (Nat.le_of_ble_eq_true rfl) (J_ki (fun v1 S1 h1 => ?_))
  obtain ⟨rfl, rfl⟩ := h1
  refine J_if_ne_b C 19 dX5_none_14 (by decide) (fun h2 => ?_) (fun h2 => ?_)
  · refine J_iconst C dX5_none_19 ?_
    refine J_istore (lv' := [(6, .int (iI (0))), (0, .ref (jad G 0)), (1, .int (iI (b))), (2, .int (iI (t))), (3, .int (iI (x))), (4, .int (iI (y))), (5, .int (iI (z)))]) C dX5_none_20 (by decide) rfl ?_
    have hpl : pplace (S 1 4) (S 2) (S 3) (S 4) b t x y z := by assumption
    simp only [if_pos hpl] at R
    refine J_lv [1, 2, 3, 4, 5, 6, 0] rfl ?_
    exact l_none hG C S b t x y z hk hpl R _ 0 rfl ⟨by omega, fun o o1 o2 => by omega⟩
  · refine J_iconst C dX5_none_17 ?_
    exact J_iret R C dX5_none_18 (jPi.mk ⟨by rw [if_neg (by assumption)], rfl⟩)
