noncomputable def ptold (wk n : Int) (len sid tb ord : Int → Int) (w k : Int) : Int := if w = 0 then wk else if (1 ≤ w ∧ w ≤ 5) ∧ (0 ≤ k ∧ k < n) then (if w = 1 then ord k else if w = 2 then wsum n len sid tb k 6 else pcnt (pC n sid tb k (w - 3)) (len (w - 3) + 1)) else -1
theorem lm_told {E : jEnv} {G : jG} (hG : mG G) (C : jX E G cX6_told 5 RX6 2 45) (S : jMem) (w k : Int) (hk : mOK S) (hs : mS S) (hw : 3 ≤ w ∧ w ≤ 5) (hb : 0 ≤ k ∧ k < S 0 1) (R : jR E G (some .int) (jPi (fun v S' => ptold (S 0 9) (S 0 1) (S 1) (S 2) (S 4) (S 7) w k = v ∧ S = S'))) : ∀ (mm : Nat) (v : Int), mm = (22 - v).toNat → (0 ≤ v ∧ v ≤ S 1 (w - 3) + 1) → J E G 59 [(0, .ref (jad G 0)), (1, .int (iI (w))), (2, .int (iI (k))), (3, .int (iI (pcnt (pC (S 0 1) (S 2) (S 4) k (w - 3)) v))), (4, .int (iI (v)))] [] S := by
  intro mm
  induction mm using Nat.strongRecOn with | ind mm ih => ?_
  intro v hm hv
  have hn := hk.1
  have hL := hk.2.1 (w - 3) (by omega) (by omega)
  have hc := pcnt_nn (pC (S 0 1) (S 2) (S 4) k (w - 3)) v
  refine J_iload C 4 dX6_told_59 rfl ?_
  refine J_aload_n C 0 dX6_told_61 rfl ?_
  refine g_X6_7 hG C dX6_told_62 ?_
  refine J_iload_n C 1 dX6_told_65 rfl ?_
  refine J_iconst C dX6_told_66 ?_
  refine J_isub C dX6_told_67 ?_
  refine mald hG C 1 3 (by decide) dX6_told_68 (by omega) (by omega) ?_
  refine J_icmp_gt C 99 dX6_told_69 (by decide) (by omega) (by omega) (fun h1 => ?_) (fun h1 => ?_)
  · refine J_iload_n C 3 dX6_told_99 rfl ?_
    exact J_iret R C dX6_told_100 (jPi.mk ⟨by unfold ptold; rw [if_neg (by omega), if_pos (by omega), if_neg (by omega), if_neg (by omega), show v = S 1 (w - 3) + 1 by omega], rfl⟩)
  · refine J_iload_n C 3 dX6_told_72 rfl ?_
    refine J_aload_n C 0 dX6_told_73 rfl ?_
    refine J_iload_n C 2 dX6_told_74 rfl ?_
    refine J_iload_n C 1 dX6_told_75 rfl ?_
    refine J_iconst C dX6_told_76 ?_
    refine J_isub C dX6_told_77 ?_
    refine J_iload C 4 dX6_told_78 rfl ?_
    refine J_callV (k := 0) (rest := [.int (iI (pcnt (pC (S 0 1) (S 2) (S 4) k (w - 3)) v))]) C (m_isSum hG S (k) ((w) - (3)) (v) (by omega) (by omega) (by omega) (by rw [hs.2.1 k (w - 3) v (by omega) (by omega) (by omega) (by omega) (by omega) (by omega)]; exact bb_or _)) kc_X6_isSum kl_X6_124 (by rw [hG.2]; decide) (by rw [hG.1]; rfl) rfl dX6_told_80 rfl rfl (by decide) (Nat.le_of_ble_eq_true rfl) (J_ki (fun v2 S2 h2 => ?_))
    obtain ⟨rfl, rfl⟩ := h2
    refine J_top (b := bb ((pC (S 0 1) (S 2) (S 4) k (w - 3)) v)) (hs.2.1 k (w - 3) v (by omega) (by omega) (by omega) (by omega) (by omega) (by omega)) ?_
    refine J_if_eq_b C 90 dX6_told_83 (by decide) (fun h3 => ?_) (fun h3 => ?_)
    · refine J_iconst C dX6_told_90 ?_
      refine J_iadd C dX6_told_91 ?_
      refine J_istore_n (lv' := [(3, .int (iI ((pcnt (pC (S 0 1) (S 2) (S 4) k (w - 3)) v) + (0)))), (0, .ref (jad G 0)), (1, .int (iI (w))), (2, .int (iI (k))), (4, .int (iI (v)))]) C dX6_told_92 (by decide) rfl ?_
      refine J_iinc (lv' := [(4, .int (iI (v + 1))), (3, .int (iI ((pcnt (pC (S 0 1) (S 2) (S 4) k (w - 3)) v) + (0)))), (0, .ref (jad G 0)), (1, .int (iI (w))), (2, .int (iI (k)))]) C 4 dX6_told_93 rfl (by decide) rfl ?_
      refine J_goto C 59 dX6_told_96 (by decide) ?_
      have e := pcnt_s (pC (S 0 1) (S 2) (S 4) k (w - 3)) hv.1
      rw [bb_f (by assumption)] at e
      refine J_lv [2, 3, 4, 1, 0] rfl ?_
      rw [show (pcnt (pC (S 0 1) (S 2) (S 4) k (w - 3)) v) + (0) = pcnt (pC (S 0 1) (S 2) (S 4) k (w - 3)) (v + 1) by omega]
      exact ih _ (by omega) (v + 1) rfl (by omega)
    · refine J_iconst C dX6_told_86 ?_
      refine J_goto C 91 dX6_told_87 (by decide) ?_
      refine J_iadd C dX6_told_91 ?_
      refine J_istore_n (lv' := [(3, .int (iI ((pcnt (pC (S 0 1) (S 2) (S 4) k (w - 3)) v) + (1)))), (0, .ref (jad G 0)), (1, .int (iI (w))), (2, .int (iI (k))), (4, .int (iI (v)))]) C dX6_told_92 (by decide) rfl ?_
      refine J_iinc (lv' := [(4, .int (iI (v + 1))), (3, .int (iI ((pcnt (pC (S 0 1) (S 2) (S 4) k (w - 3)) v) + (1)))), (0, .ref (jad G 0)), (1, .int (iI (w))), (2, .int (iI (k)))]) C 4 dX6_told_93 rfl (by decide) rfl ?_
      refine J_goto C 59 dX6_told_96 (by decide) ?_
      have e := pcnt_s (pC (S 0 1) (S 2) (S 4) k (w - 3)) hv.1
      rw [bb_t (by assumption)] at e
      refine J_lv [2, 3, 4, 1, 0] rfl ?_
      rw [show (pcnt (pC (S 0 1) (S 2) (S 4) k (w - 3)) v) + (1) = pcnt (pC (S 0 1) (S 2) (S 4) k (w - 3)) (v + 1) by omega]
      exact ih _ (by omega) (v + 1) rfl (by omega)
theorem m_told {G : jG} (hG : mG G) (S : jMem) (w k : Int) (hk : mOK S) (hs : mS S) (hw : inR w) (hb : inR k) : jM G yX6_told cX6_told 5 (some .int) 2 45 [.ref (jad G 0), .int (iI (w)), .int (iI (k))] S (jPi (fun v S' => ptold (S 0 9) (S 0 1) (S 1) (S 2) (S 4) (S 7) w k = v ∧ S = S')) := by
  refine jM.of (by decide) (Nat.le_of_ble_eq_true rfl) (fun E C R => ?_)
  show J E G 0 [(0, .ref (jad G 0)), (1, .int (iI (w))), (2, .int (iI (k)))] [] _
  have hn := hk.1
  refine J_iload_n C 1 dX6_told_0 rfl ?_
  refine J_if_ne C 10 dX6_told_1 (by decide) (by omega) (fun h1 => ?_) (fun h1 => ?_)
  · refine J_iload_n C 1 dX6_told_10 rfl ?_
    refine J_if_lt C 27 dX6_told_11 (by decide) (by omega) (fun h2 => ?_) (fun h2 => ?_)
    · refine J_iconst C dX6_told_27 ?_
      exact J_iret R C dX6_told_28 (jPi.mk ⟨by unfold ptold; (repeat first | rw [if_pos (by omega)] | rw [if_neg (by omega)]), rfl⟩)
    · refine J_iload_n C 1 dX6_told_14 rfl ?_
      refine J_iconst C dX6_told_15 ?_
      refine J_icmp_gt C 27 dX6_told_16 (by decide) (by omega) (by omega) (fun h3 => ?_) (fun h3 => ?_)
      · refine J_iconst C dX6_told_27 ?_
        exact J_iret R C dX6_told_28 (jPi.mk ⟨by unfold ptold; (repeat first | rw [if_pos (by omega)] | rw [if_neg (by omega)]), rfl⟩)
      · refine J_aload_n C 0 dX6_told_19 rfl ?_
        refine J_iload_n C 2 dX6_told_20 rfl ?_
        refine J_callV (k := 0) (rest := []) C (m_isBox hG S (k) (by omega) (by omega)) kc_X6_isBox kl_X6_151 (by rw [hG.2]; decide) (by rw [hG.1]; rfl) rfl dX6_told_21 rfl rfl (by decide) (Nat.le_of_ble_eq_true rfl) (J_ki (fun v4 S4 h4 => ?_))
        obtain ⟨rfl, rfl⟩ := h4
        refine J_if_ne_b C 29 dX6_told_24 (by decide) (fun h5 => ?_) (fun h5 => ?_)
        · refine J_iload_n C 1 dX6_told_29 rfl ?_
          refine J_iconst C dX6_told_30 ?_
          refine J_icmp_ge C 54 dX6_told_31 (by decide) (by omega) (by omega) (fun h6 => ?_) (fun h6 => ?_)
          · refine J_iconst C dX6_told_54 ?_
            refine J_istore_n (lv' := [(3, .int (iI (0))), (0, .ref (jad G 0)), (1, .int (iI (w))), (2, .int (iI (k)))]) C dX6_told_55 (by decide) rfl ?_
            refine J_iconst C dX6_told_56 ?_
            refine J_istore (lv' := [(4, .int (iI (0))), (3, .int (iI (0))), (0, .ref (jad G 0)), (1, .int (iI (w))), (2, .int (iI (k)))]) C dX6_told_57 (by decide) rfl ?_
            have hL := hk.2.1 (w - 3) (by omega) (by omega)
            have e := pcnt_0 (pC (S 0 1) (S 2) (S 4) k (w - 3)) (v := 0) (by omega)
            refine J_lv [2, 3, 4, 1, 0] rfl ?_
            have h9 := lm_told hG C S w k hk hs (by omega) (by omega) R _ 0 rfl (by omega)
            rw [e] at h9
            exact h9
          · refine J_iload_n C 1 dX6_told_34 rfl ?_
            refine J_iconst C dX6_told_35 ?_
            refine J_icmp_ne C 48 dX6_told_36 (by decide) (by omega) (by omega) (fun h7 => ?_) (fun h7 => ?_)
            · refine J_aload_n C 0 dX6_told_48 rfl ?_
              refine J_iload_n C 2 dX6_told_49 rfl ?_
              refine J_callV (k := 0) (rest := []) C (m_ways hG S (k) (by omega)) kc_X6_ways kl_X6_138 (by rw [hG.2]; decide) (by rw [hG.1]; rfl) rfl dX6_told_50 rfl rfl (by decide) (Nat.le_of_ble_eq_true rfl) (J_ki (fun v8 S8 h8 => ?_))
              obtain ⟨rfl, rfl⟩ := h8
              refine J_top (b := wsum (S 0 1) (S 1) (S 2) (S 4) k 6) (ways_sum hs (by omega)) ?_
              exact J_iret R C dX6_told_53 (jPi.mk ⟨by unfold ptold; (repeat first | rw [if_pos (by omega)] | rw [if_neg (by omega)]), rfl⟩)
            · refine J_aload_n C 0 dX6_told_39 rfl ?_
              refine g_X6_28 hG C dX6_told_40 ?_
              refine J_iload_n C 2 dX6_told_43 rfl ?_
              refine mald hG C 7 8 (by decide) dX6_told_44 (by omega) (by omega) ?_
              refine J_goto C 53 dX6_told_45 (by decide) ?_
              exact J_iret R C dX6_told_53 (jPi.mk ⟨by unfold ptold; (repeat first | rw [if_pos (by omega)] | rw [if_neg (by omega)]), rfl⟩)
        · refine J_iconst C dX6_told_27 ?_
          exact J_iret R C dX6_told_28 (jPi.mk ⟨by unfold ptold; (repeat first | rw [if_pos (by omega)] | rw [if_neg (by omega)]), rfl⟩)
  · refine J_aload_n C 0 dX6_told_4 rfl ?_
    refine g_X6_91 hG C dX6_told_5 ?_
    refine J_l2i C dX6_told_8 ?_
    exact J_iret R C dX6_told_9 (jPi.mk ⟨by unfold ptold; (repeat first | rw [if_pos (by omega)] | rw [if_neg (by omega)]), rfl⟩)
def plM (S0 : jMem) (k : Int) (S : jMem) : Prop := keeps [5, 6] S0 S ∧ (∀ j, S 5 j = if 0 ≤ j ∧ j < k then S0 9 j + 1 else S0 5 j) ∧ ∀ i, S 6 i = if 0 ≤ i ∧ i < 3 * k then S0 10 i else S0 6 i
theorem plM.put {S0 S : jMem} {k : Int} (h : plM S0 k S) (hk : 0 ≤ k) : plM S0 (k + 1) (up2 (up2 (up2 (up2 S 5 k (S 9 k + 1)) 6 (3 * k + 0) (S 10 (3 * k + 0))) 6 (3 * k + 1) (S 10 (3 * k + 1))) 6 (3 * k + 2) (S 10 (3 * k + 2))) := by
  obtain ⟨h1, h2, h3⟩ := h
  refine ⟨(((h1.up (by decide) _ _).up (by decide) _ _).up (by decide) _ _).up (by decide) _ _, fun j => ?_, fun i => ?_⟩
  · rw [up2_k _ _ _ (by decide), up2_k _ _ _ (by decide), up2_k _ _ _ (by decide), up2_s]
    by_cases e : j = k
    · subst e; rw [fset_e, if_pos (by omega), h1 9 (by decide)]
    · rw [fset_n _ _ e, h2 j]
      by_cases c : 0 ≤ j ∧ j < k
      · rw [if_pos c, if_pos (by omega)]
      · rw [if_neg c, if_neg (by omega)]
  · rw [up2_s, up2_s, up2_s, up2_k _ _ _ (by decide), h1 10 (by decide)]
    by_cases e2 : i = 3 * k + 2
    · subst e2; rw [fset_e, if_pos (by omega)]
    · rw [fset_n _ _ e2]
      by_cases e1 : i = 3 * k + 1
      · subst e1; rw [fset_e, if_pos (by omega)]
      · rw [fset_n _ _ e1]
        by_cases e0 : i = 3 * k + 0
        · subst e0; rw [fset_e, if_pos (by omega)]
        · rw [fset_n _ _ e0, h3 i]
          by_cases c : 0 ≤ i ∧ i < 3 * k
          · rw [if_pos c, if_pos (by omega)]
          · rw [if_neg c, if_neg (by omega)]
theorem lm_plan {E : jEnv} {G : jG} (hG : mG G) (C : jX E G cX6_plan 3 RX6 0 0) (S0 : jMem) (hk : mOK S0) (R : jR E G (some .int) (jPi (fun v S' => v = S0 0 1 ∧ plM S0 (S0 0 1) S'))) : ∀ (mm : Nat) (k : Int) (S : jMem), mm = (S0 0 1 - k).toNat → ((0 ≤ k ∧ k ≤ S0 0 1) ∧ plM S0 k S) → J E G 13 [(0, .ref (jad G 0)), (1, .int (iI (k)))] [] S := by
  intro mm
  induction mm using Nat.strongRecOn with | ind mm ih => ?_
  intro k S hm hi
  obtain ⟨hkk, hj⟩ := hi
  have hn := hk.1
  have e1 : S 0 1 = S0 0 1 := by rw [hj.1 0 (by decide)]
  refine J_iload_n C 1 dX6_plan_13 rfl ?_
  refine J_aload_n C 0 dX6_plan_14 rfl ?_
  refine g_X6_81 hG C dX6_plan_15 ?_
  refine J_icmp_ge C 74 dX6_plan_18 (by decide) (by omega) (by omega) (fun h1 => ?_) (fun h1 => ?_)
  · refine J_aload_n C 0 dX6_plan_74 rfl ?_
    refine g_X6_81 hG C dX6_plan_75 ?_
    have ek : k = S0 0 1 := by omega
    rw [ek] at hj
    exact J_iret R C dX6_plan_78 (jPi.mk ⟨e1, hj⟩)
  · refine J_aload_n C 0 dX6_plan_21 rfl ?_
    refine g_X6_22 hG C dX6_plan_22 ?_
    refine J_iload_n C 1 dX6_plan_25 rfl ?_
    refine J_aload_n C 0 dX6_plan_26 rfl ?_
    refine g_X6_34 hG C dX6_plan_27 ?_
    refine J_iload_n C 1 dX6_plan_30 rfl ?_
    refine mald hG C 9 8 (by decide) dX6_plan_31 (by omega) (by omega) ?_
    refine J_iconst C dX6_plan_32 ?_
    refine J_iadd C dX6_plan_33 ?_
    refine mast hG C 5 8 (by decide) dX6_plan_34 (by omega) (by omega) ?_
    refine J_iconst C dX6_plan_35 ?_
    refine J_istore_n (lv' := [(2, .int (iI (0))), (0, .ref (jad G 0)), (1, .int (iI (k)))]) C dX6_plan_36 (by decide) rfl ?_
    refine J_iload_n C 0 dX6_plan_37 rfl ?_
    refine J_iconst C dX6_plan_38 ?_
    refine J_icmp_ge C 68 dX6_plan_39 (by decide) (by omega) (by omega) (fun h => absurd h (by omega)) (fun _ => ?_)
    refine J_aload_n C 1 dX6_plan_42 rfl ?_
    refine g_X6_25 hG C dX6_plan_43 ?_
    refine J_iconst C dX6_plan_46 ?_
    refine J_iload_n C 2 dX6_plan_47 rfl ?_
    refine J_imul C dX6_plan_48 ?_
    refine J_iload_n C 0 dX6_plan_49 rfl ?_
    refine J_iadd C dX6_plan_50 ?_
    refine J_aload_n C 1 dX6_plan_51 rfl ?_
    refine g_X6_37 hG C dX6_plan_52 ?_
    refine J_iconst C dX6_plan_55 ?_
    refine J_iload_n C 2 dX6_plan_56 rfl ?_
    refine J_imul C dX6_plan_57 ?_
    refine J_iload_n C 0 dX6_plan_58 rfl ?_
    refine J_iadd C dX6_plan_59 ?_
    refine mald hG C 10 24 (by decide) dX6_plan_60 (by omega) (by omega) ?_
    refine J_top (b := S 10 (((3) * (k)) + (0))) (rd_k (by decide) (rfl)) ?_
    refine mast hG C 6 24 (by decide) dX6_plan_61 (by omega) (by omega) ?_
    refine J_iinc (lv' := [(2, .int (iI (1))), (0, .ref (jad G 0)), (1, .int (iI (k)))]) C 0 dX6_plan_62 rfl (by decide) rfl ?_
    refine J_goto C 37 dX6_plan_65 (by decide) ?_
    refine J_iload_n C 0 dX6_plan_37 rfl ?_
    refine J_iconst C dX6_plan_38 ?_
    refine J_icmp_ge C 68 dX6_plan_39 (by decide) (by omega) (by omega) (fun h => absurd h (by omega)) (fun _ => ?_)
    refine J_aload_n C 1 dX6_plan_42 rfl ?_
    refine g_X6_25 hG C dX6_plan_43 ?_
    refine J_iconst C dX6_plan_46 ?_
    refine J_iload_n C 2 dX6_plan_47 rfl ?_
    refine J_imul C dX6_plan_48 ?_
    refine J_iload_n C 0 dX6_plan_49 rfl ?_
    refine J_iadd C dX6_plan_50 ?_
    refine J_aload_n C 1 dX6_plan_51 rfl ?_
    refine g_X6_37 hG C dX6_plan_52 ?_
    refine J_iconst C dX6_plan_55 ?_
    refine J_iload_n C 2 dX6_plan_56 rfl ?_
    refine J_imul C dX6_plan_57 ?_
    refine J_iload_n C 0 dX6_plan_58 rfl ?_
    refine J_iadd C dX6_plan_59 ?_
    refine mald hG C 10 24 (by decide) dX6_plan_60 (by omega) (by omega) ?_
    refine J_top (b := S 10 (((3) * (k)) + (1))) (rd_k (by decide) (rd_k (by decide) (rfl))) ?_
    refine mast hG C 6 24 (by decide) dX6_plan_61 (by omega) (by omega) ?_
    refine J_iinc (lv' := [(2, .int (iI (2))), (0, .ref (jad G 0)), (1, .int (iI (k)))]) C 0 dX6_plan_62 rfl (by decide) rfl ?_
    refine J_goto C 37 dX6_plan_65 (by decide) ?_
    refine J_iload_n C 0 dX6_plan_37 rfl ?_
    refine J_iconst C dX6_plan_38 ?_
    refine J_icmp_ge C 68 dX6_plan_39 (by decide) (by omega) (by omega) (fun h => absurd h (by omega)) (fun _ => ?_)
    refine J_aload_n C 1 dX6_plan_42 rfl ?_
    refine g_X6_25 hG C dX6_plan_43 ?_
    refine J_iconst C dX6_plan_46 ?_
    refine J_iload_n C 2 dX6_plan_47 rfl ?_
    refine J_imul C dX6_plan_48 ?_
    refine J_iload_n C 0 dX6_plan_49 rfl ?_
    refine J_iadd C dX6_plan_50 ?_
    refine J_aload_n C 1 dX6_plan_51 rfl ?_
    refine g_X6_37 hG C dX6_plan_52 ?_
    refine J_iconst C dX6_plan_55 ?_
    refine J_iload_n C 2 dX6_plan_56 rfl ?_
    refine J_imul C dX6_plan_57 ?_
    refine J_iload_n C 0 dX6_plan_58 rfl ?_
    refine J_iadd C dX6_plan_59 ?_
    refine mald hG C 10 24 (by decide) dX6_plan_60 (by omega) (by omega) ?_
    refine J_top (b := S 10 (((3) * (k)) + (2))) (rd_k (by decide) (rd_k (by decide) (rd_k (by decide) (rfl)))) ?_
    refine mast hG C 6 24 (by decide) dX6_plan_61 (by omega) (by omega) ?_
    refine J_iinc (lv' := [(2, .int (iI (3))), (0, .ref (jad G 0)), (1, .int (iI (k)))]) C 0 dX6_plan_62 rfl (by decide) rfl ?_
    refine J_goto C 37 dX6_plan_65 (by decide) ?_
    refine J_iload_n C 0 dX6_plan_37 rfl ?_
    refine J_iconst C dX6_plan_38 ?_
    refine J_icmp_ge C 68 dX6_plan_39 (by decide) (by omega) (by omega) (fun _ => ?_) (fun h => absurd h (by omega))
    refine J_iinc (lv' := [(1, .int (iI (k + 1))), (2, .int (iI (3))), (0, .ref (jad G 0))]) C 2 dX6_plan_68 rfl (by decide) rfl ?_
    refine J_goto C 13 dX6_plan_71 (by decide) ?_
    refine J_lv [2, 0] rfl ?_
    exact ih _ (by omega) (k + 1) _ rfl ⟨by omega, hj.put hkk.1⟩
theorem m_plan {G : jG} (hG : mG G) (S0 : jMem) (hk : mOK S0) (h7 : S0 0 7 = 0 ∨ S0 0 7 = 1 ∨ S0 0 7 = 2) : jM G yX6_plan cX6_plan 3 (some .int) 0 0 [.ref (jad G 0)] S0 (jPi (fun v S' => if S0 0 7 = 1 then v = S0 0 1 ∧ plM S0 (S0 0 1) S' else v = -2 ∧ S' = S0)) := by
  refine jM.of (by decide) (Nat.le_of_ble_eq_true rfl) (fun E C R => ?_)
  show J E G 0 [(0, .ref (jad G 0))] [] _
  have hn := hk.1
  refine J_aload_n C 0 dX6_plan_0 rfl ?_
  refine g_X6_85 hG C dX6_plan_1 ?_
  refine J_iconst C dX6_plan_4 ?_
  refine J_icmp_eq C 11 dX6_plan_5 (by decide) (by omega) (by omega) (fun h1 => ?_) (fun h1 => ?_)
  · refine J_iconst C dX6_plan_11 ?_
    refine J_istore_n (lv' := [(1, .int (iI (0))), (0, .ref (jad G 0))]) C dX6_plan_12 (by decide) rfl ?_
    have hc : S0 0 7 = 1 := by omega
    simp only [if_pos hc] at R
    refine J_lv [1, 0] rfl ?_
    exact lm_plan hG C S0 hk R _ 0 S0 rfl ⟨by omega, keeps.rf, fun j => by rw [if_neg (by omega)], fun i => by rw [if_neg (by omega)]⟩
  · refine J_bipush C dX6_plan_8 (by decide) ?_
    exact J_iret R C dX6_plan_10 (jPi.mk (by rw [if_neg (by omega)]; exact ⟨rfl, rfl⟩))
