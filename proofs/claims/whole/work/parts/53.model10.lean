def goM (S : jMem) (b t x y z : Int) : jMem := up2 (up2 (up2 (up2 S 9 b t) 10 (3 * b) x) 10 (3 * b + 1) y) 10 (3 * b + 2) z
theorem mS.eq {S S' : jMem} (h : mS S) (h0 : S' 0 1 = S 0 1) (h1 : S' 1 = S 1) (h2 : S' 2 = S 2) (h4 : S' 4 = S 4) (h7 : S' 7 = S 7) (h11 : S' 11 = S 11) (h12 : S' 12 = S 12) (h13 : S' 13 = S 13) : mS S' := by
  unfold mS; rw [h0, h1, h2, h4, h7, h11, h12, h13]; exact h
theorem mOK.eq {S S' : jMem} (h : mOK S) (h0 : S' 0 1 = S 0 1) (h1 : S' 1 = S 1) (h2 : S' 2 = S 2) (h3 : S' 3 = S 3) (h4 : S' 4 = S 4) : mOK S' := by
  show sOK _ _ _ _ _
  rw [h0, h1, h2, h3, h4]; exact h
theorem go_turn {n : Int} {len sid tb wt : Int → Int} (hk : sOK n len sid tb wt) {b w t x y z u : Int} (hb : 0 ≤ b ∧ b < 8) (hW : isWay n len sid tb b w t x y z) (hu : 0 ≤ u ∧ u < 6) (h1 : wsum n len sid tb b u ≤ w) (h2 : w < wsum n len sid tb b (u + 1)) : u = t := by
  obtain ⟨x', y', z', h⟩ := isWay.ex hk hb hu h1 h2
  exact (isWay.uniq hk hb h hW).1
theorem lm_goes {E : jEnv} {G : jG} (hG : mG G) (C : jX E G cX6_goes 7 RX6 2 48) (S : jMem) (b w t x y z : Int) (hk : mOK S) (hs : mS S) (hb : 0 ≤ b ∧ b < S 0 1) (hw : 0 ≤ w ∧ w < wsum (S 0 1) (S 1) (S 2) (S 4) b 6) (hW : isWay (S 0 1) (S 1) (S 2) (S 4) b w t x y z) (R : jR E G none (jPv (fun S' => S' = goM S b t x y z))) : ∀ (mm : Nat) (u : Int), mm = (6 - u).toNat → ((0 ≤ u ∧ u ≤ 5) ∧ wsum (S 0 1) (S 1) (S 2) (S 4) b u ≤ w) → J E G 5 [(0, .ref (jad G 0)), (1, .int (iI (b))), (3, .int (iI (u))), (4, .int (iI (w - wsum (S 0 1) (S 1) (S 2) (S 4) b u)))] [] S := by
  intro mm
  induction mm using Nat.strongRecOn with | ind mm ih => ?_
  intro u hm hi
  obtain ⟨hu, hc⟩ := hi
  have hn := hk.1
  have hwu := wsum_in hk (b := b) (by omega) 6 (by omega)
  have hpu := pways_in hk (b := b) (t := u) (by omega)
  have hw0 := wsum_mono hk (b := b) (t := 0) (u := u) (by omega) (by omega) (by omega)
  rw [wsum_0] at hw0
  rw [show ((6 : Nat) : Int) = 6 from rfl] at hwu
  refine J_iload C 3 dX6_goes_5 rfl ?_
  refine J_aload_n C 0 dX6_goes_7 rfl ?_
  refine J_iload_n C 1 dX6_goes_8 rfl ?_
  refine J_iload_n C 2 dX6_goes_9 rfl ?_
  refine J_callV (k := 0) (rest := [.int (iI (w - wsum (S 0 1) (S 1) (S 2) (S 4) b u))]) C (m_waysOf hG S (b) (u) (by omega) (by omega)) kc_X6_waysOf kl_X6_128 (by rw [hG.2]; decide) (by rw [hG.1]; rfl) rfl dX6_goes_10 rfl rfl (by decide) (Nat.le_of_ble_eq_true rfl) (J_ki (fun v1 S1 h1 => ?_))
  obtain ⟨rfl, rfl⟩ := h1
  refine J_top (b := pways (S 0 1) (S 1) (S 2) (S 4) b u) (hs.2.2.2 b u (by omega) (by omega) (by omega) (by omega)) ?_
  refine J_icmp_lt C 33 dX6_goes_13 (by decide) (by omega) (by omega) (fun h2 => ?_) (fun h2 => ?_)
  · have e := wsum_s (S 0 1) (S 1) (S 2) (S 4) b hu.1
    have hwi := isWay.in hk (by omega) hW
    have eu : u = t := go_turn hk (by omega) hW (by omega) (by omega) (by omega)
    subst eu
    obtain ⟨-, g1, g2, g3, g4⟩ := isWay.dig hk (by omega) (by omega) hc (by omega)
    have l0 := hk.2.1 0 (by omega) (by omega)
    have l1 := hk.2.1 1 (by omega) (by omega)
    have l2 := hk.2.1 2 (by omega) (by omega)
    have x0 := pext_in hk (b := b) (t := u) (a := 0) (by omega) (by omega)
    have x1 := pext_in hk (b := b) (t := u) (a := 1) (by omega) (by omega)
    have x2 := pext_in hk (b := b) (t := u) (a := 2) (by omega) (by omega)
    have p0 := pmany_in hk (b := b) (t := u) (a := 0) (by omega) (by omega)
    have p1 := pmany_in hk (b := b) (t := u) (a := 1) (by omega) (by omega)
    have q0 : 0 ≤ (w - wsum (S 0 1) (S 1) (S 2) (S 4) b u) / pmany (S 0 1) (S 1) (S 2) (S 4) b u 0 ∧ (w - wsum (S 0 1) (S 1) (S 2) (S 4) b u) / pmany (S 0 1) (S 1) (S 2) (S 4) b u 0 ≤ w - wsum (S 0 1) (S 1) (S 2) (S 4) b u := ⟨Int.ediv_nonneg (by omega) (by omega), Int.ediv_le_self _ (by omega)⟩
    refine J_aload_n C 0 dX6_goes_33 rfl ?_
    refine J_iload_n C 1 dX6_goes_34 rfl ?_
    refine J_iload_n C 2 dX6_goes_35 rfl ?_
    refine J_iconst C dX6_goes_36 ?_
    refine J_callV (k := 0) (rest := []) C (m_many hG S (b) (u) (0) (by omega) (by omega) (by omega)) kc_X6_many kl_X6_111 (by rw [hG.2]; decide) (by rw [hG.1]; rfl) rfl dX6_goes_37 rfl rfl (by decide) (Nat.le_of_ble_eq_true rfl) (J_ki (fun v3 S3 h3 => ?_))
    obtain ⟨rfl, rfl⟩ := h3
    refine J_top (b := pmany (S 0 1) (S 1) (S 2) (S 4) b (u) (0)) (hs.2.2.1 b u 0 (by omega) (by omega) (by omega) (by omega) (by omega) (by omega)) ?_
    refine J_istore (lv' := [(5, .int (iI (pmany (S 0 1) (S 1) (S 2) (S 4) b (u) (0)))), (0, .ref (jad G 0)), (1, .int (iI (b))), (3, .int (iI (u))), (4, .int (iI (w - wsum (S 0 1) (S 1) (S 2) (S 4) b u)))]) C dX6_goes_40 (by decide) rfl ?_
    refine J_aload_n C 1 dX6_goes_42 rfl ?_
    refine J_iload_n C 2 dX6_goes_43 rfl ?_
    refine J_iload_n C 3 dX6_goes_44 rfl ?_
    refine J_iconst C dX6_goes_45 ?_
    refine J_callV (k := 0) (rest := []) C (m_many hG S (b) (u) (1) (by omega) (by omega) (by omega)) kc_X6_many kl_X6_111 (by rw [hG.2]; decide) (by rw [hG.1]; rfl) rfl dX6_goes_46 rfl rfl (by decide) (Nat.le_of_ble_eq_true rfl) (J_ki (fun v4 S4 h4 => ?_))
    obtain ⟨rfl, rfl⟩ := h4
    refine J_top (b := pmany (S 0 1) (S 1) (S 2) (S 4) b (u) (1)) (hs.2.2.1 b u 1 (by omega) (by omega) (by omega) (by omega) (by omega) (by omega)) ?_
    refine J_istore (lv' := [(6, .int (iI (pmany (S 0 1) (S 1) (S 2) (S 4) b (u) (1)))), (5, .int (iI (pmany (S 0 1) (S 1) (S 2) (S 4) b (u) (0)))), (0, .ref (jad G 0)), (1, .int (iI (b))), (3, .int (iI (u))), (4, .int (iI (w - wsum (S 0 1) (S 1) (S 2) (S 4) b u)))]) C dX6_goes_49 (by decide) rfl ?_
    refine J_aload_n C 2 dX6_goes_51 rfl ?_
    refine g_X6_34 hG C dX6_goes_52 ?_
    refine J_iload_n C 3 dX6_goes_55 rfl ?_
    refine J_iload_n C 4 dX6_goes_56 rfl ?_
    refine mast hG C 9 8 (by decide) dX6_goes_57 (by omega) (by omega) ?_
    refine J_aload_n C 2 dX6_goes_58 rfl ?_
    refine g_X6_37 hG C dX6_goes_59 ?_
    refine J_iconst C dX6_goes_62 ?_
    refine J_iload_n C 3 dX6_goes_63 rfl ?_
    refine J_imul C dX6_goes_64 ?_
    refine J_aload_n C 2 dX6_goes_65 rfl ?_
    refine J_iload_n C 3 dX6_goes_66 rfl ?_
    refine J_iconst C dX6_goes_67 ?_
    refine J_iload C 5 dX6_goes_68 rfl ?_
    refine J_iload C 1 dX6_goes_70 rfl ?_
    refine J_irem C dX6_goes_72 (by omega) (by omega) (by omega) (by omega) ?_
    refine J_callV (k := 0) (rest := [.int (iI ((3) * (b))), .ref (jad G 10)]) C (m_coord hG (up2 S 9 (b) (u)) (b) (0) ((w - wsum (S 0 1) (S 1) (S 2) (S 4) b u) % (pmany (S 0 1) (S 1) (S 2) (S 4) b (u) (0))) x (hk.eq rfl rfl rfl rfl rfl) (hs.eq rfl rfl rfl rfl rfl rfl rfl rfl) hb (by omega) hW.2.2.1 (by omega)) kc_X6_coordinate kl_X6_131 (by rw [hG.2]; decide) (by rw [hG.1]; rfl) rfl dX6_goes_73 rfl rfl (by decide) (Nat.le_of_ble_eq_true rfl) (J_ki (fun v5 S5 h5 => ?_))
    obtain ⟨rfl, rfl⟩ := h5
    refine mast hG C 10 24 (by decide) dX6_goes_76 (by omega) (by omega) ?_
    refine J_aload_n C 2 dX6_goes_77 rfl ?_
    refine g_X6_37 hG C dX6_goes_78 ?_
    refine J_iconst C dX6_goes_81 ?_
    refine J_iload_n C 3 dX6_goes_82 rfl ?_
    refine J_imul C dX6_goes_83 ?_
    refine J_iconst C dX6_goes_84 ?_
    refine J_iadd C dX6_goes_85 ?_
    refine J_aload_n C 2 dX6_goes_86 rfl ?_
    refine J_iload_n C 3 dX6_goes_87 rfl ?_
    refine J_iconst C dX6_goes_88 ?_
    refine J_iload C 5 dX6_goes_89 rfl ?_
    refine J_iload C 1 dX6_goes_91 rfl ?_
    refine J_idiv C dX6_goes_93 (by omega) (by omega) (by omega) (by omega) ?_
    refine J_iload C 0 dX6_goes_94 rfl ?_
    refine J_irem C dX6_goes_96 (by omega) (by omega) (by omega) (by omega) ?_
    refine J_callV (k := 0) (rest := [.int (iI (((3) * (b)) + (1))), .ref (jad G 10)]) C (m_coord hG (up2 (up2 S 9 (b) (u)) 10 ((3) * (b)) (x)) (b) (1) (((w - wsum (S 0 1) (S 1) (S 2) (S 4) b u) / (pmany (S 0 1) (S 1) (S 2) (S 4) b (u) (0))) % (pmany (S 0 1) (S 1) (S 2) (S 4) b (u) (1))) y (hk.eq rfl rfl rfl rfl rfl) (hs.eq rfl rfl rfl rfl rfl rfl rfl rfl) hb (by omega) hW.2.2.2.1 (by omega)) kc_X6_coordinate kl_X6_131 (by rw [hG.2]; decide) (by rw [hG.1]; rfl) rfl dX6_goes_97 rfl rfl (by decide) (Nat.le_of_ble_eq_true rfl) (J_ki (fun v6 S6 h6 => ?_))
    obtain ⟨rfl, rfl⟩ := h6
    refine mast hG C 10 24 (by decide) dX6_goes_100 (by omega) (by omega) ?_
    refine J_aload_n C 2 dX6_goes_101 rfl ?_
    refine g_X6_37 hG C dX6_goes_102 ?_
    refine J_iconst C dX6_goes_105 ?_
    refine J_iload_n C 3 dX6_goes_106 rfl ?_
    refine J_imul C dX6_goes_107 ?_
    refine J_iconst C dX6_goes_108 ?_
    refine J_iadd C dX6_goes_109 ?_
    refine J_aload_n C 2 dX6_goes_110 rfl ?_
    refine J_iload_n C 3 dX6_goes_111 rfl ?_
    refine J_iconst C dX6_goes_112 ?_
    refine J_iload C 5 dX6_goes_113 rfl ?_
    refine J_iload C 1 dX6_goes_115 rfl ?_
    refine J_idiv C dX6_goes_117 (by omega) (by omega) (by omega) (by omega) ?_
    refine J_iload C 0 dX6_goes_118 rfl ?_
    refine J_idiv C dX6_goes_120 (by omega) (by omega) (by omega) (by omega) ?_
    refine J_callV (k := 0) (rest := [.int (iI (((3) * (b)) + (2))), .ref (jad G 10)]) C (m_coord hG (up2 (up2 (up2 S 9 (b) (u)) 10 ((3) * (b)) (x)) 10 (((3) * (b)) + (1)) (y)) (b) (2) (((w - wsum (S 0 1) (S 1) (S 2) (S 4) b u) / (pmany (S 0 1) (S 1) (S 2) (S 4) b (u) (0))) / (pmany (S 0 1) (S 1) (S 2) (S 4) b (u) (1))) z (hk.eq rfl rfl rfl rfl rfl) (hs.eq rfl rfl rfl rfl rfl rfl rfl rfl) hb (by omega) hW.2.2.2.2 (by omega)) kc_X6_coordinate kl_X6_131 (by rw [hG.2]; decide) (by rw [hG.1]; rfl) rfl dX6_goes_121 rfl rfl (by decide) (Nat.le_of_ble_eq_true rfl) (J_ki (fun v7 S7 h7 => ?_))
    obtain ⟨rfl, rfl⟩ := h7
    refine mast hG C 10 24 (by decide) dX6_goes_124 (by omega) (by omega) ?_
    exact J_vret R C dX6_goes_125 (jPv.mk (by rfl))
  · refine J_iload C 3 dX6_goes_16 rfl ?_
    refine J_aload_n C 0 dX6_goes_18 rfl ?_
    refine J_iload_n C 1 dX6_goes_19 rfl ?_
    refine J_iload_n C 2 dX6_goes_20 rfl ?_
    refine J_callV (k := 0) (rest := [.int (iI (w - wsum (S 0 1) (S 1) (S 2) (S 4) b u))]) C (m_waysOf hG S (b) (u) (by omega) (by omega)) kc_X6_waysOf kl_X6_128 (by rw [hG.2]; decide) (by rw [hG.1]; rfl) rfl dX6_goes_21 rfl rfl (by decide) (Nat.le_of_ble_eq_true rfl) (J_ki (fun v8 S8 h8 => ?_))
    obtain ⟨rfl, rfl⟩ := h8
    refine J_top (b := pways (S 0 1) (S 1) (S 2) (S 4) b u) (hs.2.2.2 b u (by omega) (by omega) (by omega) (by omega)) ?_
    refine J_isub C dX6_goes_24 ?_
    refine J_istore (lv' := [(4, .int (iI ((w - wsum (S 0 1) (S 1) (S 2) (S 4) b u) - (pways (S 0 1) (S 1) (S 2) (S 4) b u)))), (0, .ref (jad G 0)), (1, .int (iI (b))), (3, .int (iI (u)))]) C dX6_goes_25 (by decide) rfl ?_
    refine J_iinc (lv' := [(3, .int (iI (u + 1))), (4, .int (iI ((w - wsum (S 0 1) (S 1) (S 2) (S 4) b u) - (pways (S 0 1) (S 1) (S 2) (S 4) b u)))), (0, .ref (jad G 0)), (1, .int (iI (b)))]) C 3 dX6_goes_27 rfl (by decide) rfl ?_
    refine J_goto C 5 dX6_goes_30 (by decide) ?_
    have e := wsum_s (S 0 1) (S 1) (S 2) (S 4) b hu.1
    have hm2 : u ≠ 5 := fun e5 => by subst e5; rw [show (5 : Int) + 1 = 6 from rfl] at e; omega
    refine J_lv [2, 3, 0, 1] rfl ?_
    rw [show (w - wsum (S 0 1) (S 1) (S 2) (S 4) b u) - (pways (S 0 1) (S 1) (S 2) (S 4) b u) = w - wsum (S 0 1) (S 1) (S 2) (S 4) b (u + 1) by omega]
    exact ih _ (by omega) (u + 1) rfl ⟨by omega, by omega⟩
theorem m_goes {G : jG} (hG : mG G) (S : jMem) (b w t x y z : Int) (hk : mOK S) (hs : mS S) (hb : 0 ≤ b ∧ b < S 0 1) (hw : 0 ≤ w ∧ w < wsum (S 0 1) (S 1) (S 2) (S 4) b 6) (hW : isWay (S 0 1) (S 1) (S 2) (S 4) b w t x y z) : jM G yX6_goes cX6_goes 7 none 2 48 [.ref (jad G 0), .int (iI (b)), .int (iI (w))] S (jPv (fun S' => S' = goM S b t x y z)) := by
  refine jM.of (by decide) (Nat.le_of_ble_eq_true rfl) (fun E C R => ?_)
  show J E G 0 [(0, .ref (jad G 0)), (1, .int (iI (b))), (2, .int (iI (w)))] [] _
  refine J_iconst C dX6_goes_0 ?_
  refine J_istore_n (lv' := [(3, .int (iI (0))), (0, .ref (jad G 0)), (1, .int (iI (b))), (2, .int (iI (w)))]) C dX6_goes_1 (by decide) rfl ?_
  refine J_iload_n C 3 dX6_goes_2 rfl ?_
  refine J_istore (lv' := [(4, .int (iI (w))), (3, .int (iI (0))), (0, .ref (jad G 0)), (1, .int (iI (b))), (2, .int (iI (w)))]) C dX6_goes_3 (by decide) rfl ?_
  refine J_lv [2, 3, 1, 0] rfl ?_
  have h9 := lm_goes hG C S b w t x y z hk hs hb hw hW R _ 0 rfl ⟨by omega, by rw [wsum_0]; omega⟩
  rw [wsum_0, Int.sub_zero] at h9
  exact h9
theorem m_isApart {G : jG} (hG : mG G) (S : jMem) (f e g h : Int) (hf : 0 ≤ f ∧ f ≤ 20) (he : 0 ≤ e ∧ e ≤ 20) (hg : 0 ≤ g ∧ g ≤ 20) (hh : 0 ≤ h ∧ h ≤ 20) : jM G yX6_isApart cX6_isApart 5 (some .boolean) 0 0 [.ref (jad G 0), .int (iI (f)), .int (iI (e)), .int (iI (g)), .int (iI (h))] S (jPi (fun v S' => bb (f + e ≤ g ∨ g + h ≤ f) = v ∧ S = S')) := by
  refine jM.of (by decide) (Nat.le_of_ble_eq_true rfl) (fun E C R => ?_)
  show J E G 0 [(0, .ref (jad G 0)), (1, .int (iI (f))), (2, .int (iI (e))), (3, .int (iI (g))), (4, .int (iI (h)))] [] _
  refine J_iload_n C 1 dX6_isApart_0 rfl ?_
  refine J_iload_n C 2 dX6_isApart_1 rfl ?_
  refine J_iadd C dX6_isApart_2 ?_
  refine J_iload_n C 3 dX6_isApart_3 rfl ?_
  refine J_icmp_le C 15 dX6_isApart_4 (by decide) (by omega) (by omega) (fun h1 => ?_) (fun h1 => ?_)
  · refine J_iconst C dX6_isApart_15 ?_
    refine J_goto C 20 dX6_isApart_16 (by decide) ?_
    exact J_zret R C dX6_isApart_20 (by first | exact Or.inl rfl | exact Or.inr rfl | omega) (jPi.mk ⟨by first | exact bb_t (by omega) | exact bb_f (by omega), rfl⟩)
  · refine J_iload_n C 3 dX6_isApart_7 rfl ?_
    refine J_iload C 4 dX6_isApart_8 rfl ?_
    refine J_iadd C dX6_isApart_10 ?_
    refine J_iload_n C 1 dX6_isApart_11 rfl ?_
    refine J_icmp_gt C 19 dX6_isApart_12 (by decide) (by omega) (by omega) (fun h2 => ?_) (fun h2 => ?_)
    · refine J_iconst C dX6_isApart_19 ?_
      exact J_zret R C dX6_isApart_20 (by first | exact Or.inl rfl | exact Or.inr rfl | omega) (jPi.mk ⟨by first | exact bb_t (by omega) | exact bb_f (by omega), rfl⟩)
    · refine J_iconst C dX6_isApart_15 ?_
      refine J_goto C 20 dX6_isApart_16 (by decide) ?_
      exact J_zret R C dX6_isApart_20 (by first | exact Or.inl rfl | exact Or.inr rfl | omega) (jPi.mk ⟨by first | exact bb_t (by omega) | exact bb_f (by omega), rfl⟩)
