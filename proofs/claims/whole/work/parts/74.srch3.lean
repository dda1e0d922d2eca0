theorem l_nr56 {E : jEnv} {G : jG} (hG : cG G) (C : jX E G cX3_nextRow 1 RX3 4 92) (S0 : jMem) (nx : Int → Int) (hk0 : cOK S0) (hs0 : cS S0) (hd0 : 0 ≤ S0 6 12 ∧ S0 6 12 < S0 1 4) (R : jR E G (some .boolean) (jPi (fun v S' => (v = 1 ∧ cpg S' nx (S0 6 12) ∧ dif (S0 6 12) S0 S' ∧ S' 16 (S0 6 12) ≠ 0) ∨ (v = 0 ∧ nx (S0 6 12) = wsum (S0 1 4) (S0 2) (S0 3) (S0 4) (S0 7 (S0 6 12)) 6 ∧ S' = S0)))) : ∀ (mm : Nat) (S : jMem), mm = ((0 : Int)).toNat → (rrS S nx (S 6 12) ∧ dif (S0 6 12) S0 S ∧ past S nx (S 6 12)) → J E G 56 [(0, .ref (jad G 6))] [] S := by
  intro mm
  induction mm using Nat.strongRecOn with | ind mm ih => ?_
  intro S hm hrr
  obtain ⟨hrr, hdif, hpa⟩ := hrr
  have h6 : S 6 = S0 6 := hdif.1 6 (by decide)
  have hk : cOK S := cOKd hdif hk0
  have hs : cS S := cSd hdif hs0
  have hd : 0 ≤ S 6 12 ∧ S 6 12 < S 1 4 := by rw [h6, hdif.1 1 (by decide)]; exact hd0
  have hn := hk.1
  obtain ⟨⟨yt, xt, hpr0⟩, hz0, hx0, h15, h16⟩ := id hrr
  unfold cprog at hpr0
  have l15 : 0 ≤ S 15 (S 6 12) := hpr0.2.2.1.2.1.1
  have l21 := hpr0.2.2.1.2.1.lt hpr0.2.1.2.1.1
  rw [show (2 : Int) ^ 21 = 2097152 from rfl] at l21
  have c21 := hpr0.2.1.1.1
  rw [show (2 : Int) ^ 21 = 2097152 from rfl] at c21
  obtain ⟨y, hlow⟩ := isLow.ex (x := S 15 (S 6 12)) (by omega)
  obtain ⟨⟨hpr, hz, hy, hx⟩, hdf, e16, e11⟩ := hrr.row hk hs hd hlow
  refine J_aload_n C 0 dX3_nextRow_56 rfl ?_
  refine g_X3_36 hG C dX3_nextRow_57 ?_
  refine J_aload_n C 0 dX3_nextRow_60 rfl ?_
  refine g_X3_105 hG C dX3_nextRow_61 ?_
  refine cald hG C 15 8 (by decide) dX3_nextRow_64 (by omega) (by omega) ?_
  refine J_if_ne C 70 dX3_nextRow_65 (by decide) (by omega) (fun _ => ?_) (fun h => absurd h (by omega))
  refine J_aload_n C 0 dX3_nextRow_70 rfl ?_
  refine J_iconst C dX3_nextRow_71 ?_
  refine J_aload_n C 0 dX3_nextRow_72 rfl ?_
  refine g_X3_36 hG C dX3_nextRow_73 ?_
  refine J_aload_n C 0 dX3_nextRow_76 rfl ?_
  refine g_X3_105 hG C dX3_nextRow_77 ?_
  refine cald hG C 15 8 (by decide) dX3_nextRow_80 (by omega) (by omega) ?_
  refine J_callN (rest := [.int (iI (1)), .ref (jad G 6)]) C (c_lowest hG S (S 15 (S 6 12)) y (by omega) hlow) kc_X5_lowest kl_X3_124 dX3_nextRow_81 rfl rfl (by decide) (Nat.le_of_ble_eq_true rfl) (J_ki (fun v2 S2 h2 => ?_))
  obtain ⟨rfl, rfl⟩ := h2
  refine J_callV (k := 6) (rest := []) C (c_setAxis hG S (1) (y) (by omega) (by omega)) kc_X3_setAxis kl_X3_127 (by rw [hG.2]; decide) (by rw [hG.1]; rfl) rfl dX3_nextRow_84 rfl rfl (by decide) (Nat.le_of_ble_eq_true rfl) (J_kv (fun S3 h3 => ?_))
  subst h3
  refine J_aload_n C 0 dX3_nextRow_87 rfl ?_
  refine g_X3_36 hG C dX3_nextRow_88 ?_
  refine J_aload_n C 0 dX3_nextRow_91 rfl ?_
  refine g_X3_105 hG C dX3_nextRow_92 ?_
  refine J_top (b := S 6 12) (rd_k (by decide) (rd_k (by decide) (rfl))) ?_
  refine J_dup2 C dX3_nextRow_95 rfl rfl ?_
  refine cald hG C 15 8 (by decide) dX3_nextRow_96 (by omega) (by omega) ?_
  refine J_top (b := S 15 (S 6 12)) (rd_k (by decide) (rd_k (by decide) (rfl))) ?_
  refine J_aload_n C 0 dX3_nextRow_97 rfl ?_
  refine g_X3_36 hG C dX3_nextRow_98 ?_
  refine J_aload_n C 0 dX3_nextRow_101 rfl ?_
  refine g_X3_105 hG C dX3_nextRow_102 ?_
  refine J_top (b := S 6 12) (rd_k (by decide) (rd_k (by decide) (rfl))) ?_
  refine cald hG C 15 8 (by decide) dX3_nextRow_105 (by omega) (by omega) ?_
  refine J_top (b := S 15 (S 6 12)) (rd_k (by decide) (rd_k (by decide) (rfl))) ?_
  refine J_iconst C dX3_nextRow_106 ?_
  refine J_isub C dX3_nextRow_107 ?_
  refine J_iand C (zand (S 15 (S 6 12)) ((S 15 (S 6 12)) - (1))) dX3_nextRow_108 (iI_zand (by omega) (by omega) (by omega) (by omega)) ?_
  refine cast hG C 15 8 (by decide) dX3_nextRow_109 (by omega) (by omega) ?_
  refine J_aload_n C 0 dX3_nextRow_110 rfl ?_
  refine g_X3_39 hG C dX3_nextRow_111 ?_
  refine J_aload_n C 0 dX3_nextRow_114 rfl ?_
  refine g_X3_105 hG C dX3_nextRow_115 ?_
  refine J_top (b := S 6 12) (rd_k (by decide) (rd_k (by decide) (rd_k (by decide) (rfl)))) ?_
  refine J_aload_n C 0 dX3_nextRow_118 rfl ?_
  refine g_X3_24 hG C dX3_nextRow_119 ?_
  refine J_aload_n C 0 dX3_nextRow_122 rfl ?_
  refine g_X3_105 hG C dX3_nextRow_123 ?_
  refine J_top (b := S 6 12) (rd_k (by decide) (rd_k (by decide) (rd_k (by decide) (rfl)))) ?_
  refine J_iconst C dX3_nextRow_126 ?_
  refine J_imul C dX3_nextRow_127 ?_
  refine cald hG C 11 24 (by decide) dX3_nextRow_128 (by omega) (by omega) ?_
  refine J_top (b := S 11 ((S 6 12) * (3))) (rd_k (by decide) (rd_k (by decide) (rd_k (by decide) (rfl)))) ?_
  refine cast hG C 16 8 (by decide) dX3_nextRow_129 (by omega) (by omega) ?_
  refine J_aload_n C 0 dX3_nextRow_130 rfl ?_
  refine g_X3_42 hG C dX3_nextRow_131 ?_
  refine J_aload_n C 0 dX3_nextRow_134 rfl ?_
  refine g_X3_105 hG C dX3_nextRow_135 ?_
  refine J_top (b := S 6 12) (rd_k (by decide) (rd_k (by decide) (rd_k (by decide) (rd_k (by decide) (rfl))))) ?_
  refine J_aload_n C 0 dX3_nextRow_138 rfl ?_
  refine g_X3_39 hG C dX3_nextRow_139 ?_
  refine J_aload_n C 0 dX3_nextRow_142 rfl ?_
  refine g_X3_105 hG C dX3_nextRow_143 ?_
  refine J_top (b := S 6 12) (rd_k (by decide) (rd_k (by decide) (rd_k (by decide) (rd_k (by decide) (rfl))))) ?_
  refine cald hG C 16 8 (by decide) dX3_nextRow_146 (by omega) (by omega) ?_
  refine J_top (b := S 11 ((S 6 12) * (3))) (rd_e (by omega)) ?_
  refine J_aload_n C 0 dX3_nextRow_147 rfl ?_
  refine J_callV (k := 6) (rest := [.int (iI (S 11 ((S 6 12) * (3)))), .int (iI (S 6 12)), .ref (jad G 17)]) C (c_blk hG (up2 (up2 (up2 (up2 S 12 (S 6 12 * 3 + 1) (y)) 13 (S 6 12 * 3 + 1) (y + S 10 (S 6 12 * 3 + 1))) 15 (S 6 12) (zand (S 15 (S 6 12)) ((S 15 (S 6 12)) - (1)))) 16 (S 6 12) (S 11 ((S 6 12) * (3)))) (cOKd hdf hk) (cSd hdf hs) hd (bkC.mk (cOKd hdf hk) (cSd hdf hs) hd (hpa.agr (fun e e1 e2 => hdf.agr (by omega)) (fun _ _ _ => rfl)) hz hy hx hpr)) kc_X3_blockedInRow kl_X3_131 (by rw [hG.2]; decide) (by rw [hG.1]; rfl) rfl dX3_nextRow_148 rfl rfl (by decide) (Nat.le_of_ble_eq_true rfl) (J_ki (fun v4 S4 h4 => ?_))
  obtain ⟨hbk, hSe⟩ := h4
  subst hSe
  have hbr := hbk.1
  rw [show (2 : Int) ^ 21 = 2097152 from rfl] at hbr
  refine J_iconst C dX3_nextRow_151 ?_
  refine J_ixor C (-(v4) - 1) dX3_nextRow_152 (iI_not _) ?_
  refine J_iand C (zandn (S 11 ((S 6 12) * (3))) (v4)) dX3_nextRow_153 (iI_zandn (by omega) (by omega) (by omega) (by omega)) ?_
  refine cast hG C 17 8 (by decide) dX3_nextRow_154 (by omega) (by omega) ?_
  refine J_iconst C dX3_nextRow_155 ?_
  have hR := row_done (S := S0) hd.1 (show dif (S 6 12) S0 _ by rw [h6] at hdf ⊢; exact hdif.tr hdf) hpr hz hy hx (by rw [e16]; exact e11) hbk
  rw [e16] at hR
  refine J_zret R C dX3_nextRow_156 (Or.inr rfl) (jPi.mk (Or.inl ⟨rfl, ?_⟩))
  rw [show S0 6 12 = S 6 12 by rw [h6]]
  exact hR
theorem l_nr28a {E : jEnv} {G : jG} (hG : cG G) (C : jX E G cX3_nextRow 1 RX3 4 92) (S0 : jMem) (nx : Int → Int) (hk0 : cOK S0) (hs0 : cS S0) (hd0 : 0 ≤ S0 6 12 ∧ S0 6 12 < S0 1 4) (R : jR E G (some .boolean) (jPi (fun v S' => (v = 1 ∧ cpg S' nx (S0 6 12) ∧ dif (S0 6 12) S0 S' ∧ S' 16 (S0 6 12) ≠ 0) ∨ (v = 0 ∧ nx (S0 6 12) = wsum (S0 1 4) (S0 2) (S0 3) (S0 4) (S0 7 (S0 6 12)) 6 ∧ S' = S0)))) : ∀ (mm : Nat) (S : jMem), mm = ((0 : Int)).toNat → (rrS S nx (S 6 12) ∧ dif (S0 6 12) S0 S ∧ past S nx (S 6 12)) → J E G 28 [(0, .ref (jad G 6))] [] S := by
  intro mm
  induction mm using Nat.strongRecOn with | ind mm ih => ?_
  intro S hm hi
  obtain ⟨hph, hdif, hpa⟩ := hi
  have h6 : S 6 = S0 6 := hdif.1 6 (by decide)
  have hk : cOK S := cOKd hdif hk0
  have hs : cS S := cSd hdif hs0
  have hd : 0 ≤ S 6 12 ∧ S 6 12 < S 1 4 := by rw [h6, hdif.1 1 (by decide)]; exact hd0
  have hn := hk.1
  obtain ⟨⟨yt, xt, hpr0⟩, hz0, hx0, h15, h16⟩ := id hph
  unfold cprog at hpr0
  have l15 : 0 ≤ S 15 (S 6 12) := hpr0.2.2.1.2.1.1
  have l21 := hpr0.2.2.1.2.1.lt hpr0.2.1.2.1.1
  rw [show (2 : Int) ^ 21 = 2097152 from rfl] at l21
  refine J_aload_n C 0 dX3_nextRow_28 rfl ?_
  refine g_X3_36 hG C dX3_nextRow_29 ?_
  refine J_aload_n C 0 dX3_nextRow_32 rfl ?_
  refine g_X3_105 hG C dX3_nextRow_33 ?_
  refine cald hG C 15 8 (by decide) dX3_nextRow_36 (by omega) (by omega) ?_
  refine J_if_ne C 56 dX3_nextRow_37 (by decide) (by omega) (fun _ => ?_) (fun h => absurd h (by omega))
  refine J_lv [0] rfl ?_
  exact l_nr56 hG C S0 nx hk0 hs0 hd0 R _ S rfl ⟨hph, hdif, hpa⟩
theorem l_nr28b {E : jEnv} {G : jG} (hG : cG G) (C : jX E G cX3_nextRow 1 RX3 4 92) (S0 : jMem) (nx : Int → Int) (hk0 : cOK S0) (hs0 : cS S0) (hd0 : 0 ≤ S0 6 12 ∧ S0 6 12 < S0 1 4) (R : jR E G (some .boolean) (jPi (fun v S' => (v = 1 ∧ cpg S' nx (S0 6 12) ∧ dif (S0 6 12) S0 S' ∧ S' 16 (S0 6 12) ≠ 0) ∨ (v = 0 ∧ nx (S0 6 12) = wsum (S0 1 4) (S0 2) (S0 3) (S0 4) (S0 7 (S0 6 12)) 6 ∧ S' = S0)))) : ∀ (mm : Nat) (S : jMem), mm = ((0 : Int)).toNat → (lrS S nx (S 6 12) ∧ dif (S0 6 12) S0 S ∧ past S nx (S 6 12)) → J E G 28 [(0, .ref (jad G 6))] [] S := by
  intro mm
  induction mm using Nat.strongRecOn with | ind mm ih => ?_
  intro S hm hi
  obtain ⟨hph, hdif, hpa⟩ := hi
  have h6 : S 6 = S0 6 := hdif.1 6 (by decide)
  have hk : cOK S := cOKd hdif hk0
  have hs : cS S := cSd hdif hs0
  have hd : 0 ≤ S 6 12 ∧ S 6 12 < S 1 4 := by rw [h6, hdif.1 1 (by decide)]; exact hd0
  have hn := hk.1
  obtain ⟨⟨zt, yt, xt, hpr0⟩, hx0, h14, h15, h16⟩ := id hph
  unfold cprog at hpr0
  have l14 : 0 ≤ S 14 (S 6 12) := hpr0.2.2.1.1.1
  have l21 := hpr0.2.2.1.1.lt hpr0.2.1.2.2.1
  rw [show (2 : Int) ^ 21 = 2097152 from rfl] at l21
  refine J_aload_n C 0 dX3_nextRow_28 rfl ?_
  refine g_X3_36 hG C dX3_nextRow_29 ?_
  refine J_aload_n C 0 dX3_nextRow_32 rfl ?_
  refine g_X3_105 hG C dX3_nextRow_33 ?_
  refine cald hG C 15 8 (by decide) dX3_nextRow_36 (by omega) (by omega) ?_
  refine J_if_ne C 56 dX3_nextRow_37 (by decide) (by omega) (fun h => absurd h (by omega)) (fun _ => ?_)
  refine J_aload_n C 0 dX3_nextRow_40 rfl ?_
  refine g_X3_33 hG C dX3_nextRow_41 ?_
  refine J_aload_n C 0 dX3_nextRow_44 rfl ?_
  refine g_X3_105 hG C dX3_nextRow_45 ?_
  refine cald hG C 14 8 (by decide) dX3_nextRow_48 (by omega) (by omega) ?_
  refine J_if_eq C 56 dX3_nextRow_49 (by decide) (by omega) (fun h => absurd h (by omega)) (fun _ => ?_)
  refine J_aload_n C 0 dX3_nextRow_52 rfl ?_
  refine J_callV (k := 6) (rest := []) C (c_nextLayer hG S nx hk hs hd hph) kc_X3_nextLayer kl_X3_121 (by rw [hG.2]; decide) (by rw [hG.1]; rfl) rfl dX3_nextRow_53 rfl rfl (by decide) (Nat.le_of_ble_eq_true rfl) (J_kv (fun S3 h3 => ?_))
  obtain ⟨hrr, hdf⟩ := h3
  have h62 : S3 6 = S 6 := hdf.1 6 (by decide)
  refine J_lv [0] rfl ?_
  refine l_nr56 hG C S0 nx hk0 hs0 hd0 R _ _ rfl ⟨by rw [h62]; exact hrr, ?_, ?_⟩
  · rw [h6] at hdf; exact hdif.tr hdf
  · rw [h62]; exact hpa.agr (fun e e1 e2 => hdf.agr (by omega)) (fun _ _ _ => rfl)
theorem l_nr28c {E : jEnv} {G : jG} (hG : cG G) (C : jX E G cX3_nextRow 1 RX3 4 92) (S0 : jMem) (nx : Int → Int) (hk0 : cOK S0) (hs0 : cS S0) (hd0 : 0 ≤ S0 6 12 ∧ S0 6 12 < S0 1 4) (R : jR E G (some .boolean) (jPi (fun v S' => (v = 1 ∧ cpg S' nx (S0 6 12) ∧ dif (S0 6 12) S0 S' ∧ S' 16 (S0 6 12) ≠ 0) ∨ (v = 0 ∧ nx (S0 6 12) = wsum (S0 1 4) (S0 2) (S0 3) (S0 4) (S0 7 (S0 6 12)) 6 ∧ S' = S0)))) : ∀ (mm : Nat) (S : jMem), mm = ((0 : Int)).toNat → (S 15 (S 6 12) = 0 ∧ S 14 (S 6 12) = 0 ∧ nx (S 6 12) = wsum (S 1 4) (S 2) (S 3) (S 4) (S 7 (S 6 12)) 6 ∧ S = S0) → J E G 28 [(0, .ref (jad G 6))] [] S := by
  intro mm
  induction mm using Nat.strongRecOn with | ind mm ih => ?_
  intro S hm hi
  obtain ⟨h15, h14, hw, hSe⟩ := hi
  subst hSe
  have hn := hk0.1
  refine J_aload_n C 0 dX3_nextRow_28 rfl ?_
  refine g_X3_36 hG C dX3_nextRow_29 ?_
  refine J_aload_n C 0 dX3_nextRow_32 rfl ?_
  refine g_X3_105 hG C dX3_nextRow_33 ?_
  refine cald hG C 15 8 (by decide) dX3_nextRow_36 (by omega) (by omega) ?_
  refine J_if_ne C 56 dX3_nextRow_37 (by decide) (by omega) (fun h => absurd h (by omega)) (fun _ => ?_)
  refine J_aload_n C 0 dX3_nextRow_40 rfl ?_
  refine g_X3_33 hG C dX3_nextRow_41 ?_
  refine J_aload_n C 0 dX3_nextRow_44 rfl ?_
  refine g_X3_105 hG C dX3_nextRow_45 ?_
  refine cald hG C 14 8 (by decide) dX3_nextRow_48 (by omega) (by omega) ?_
  refine J_if_eq C 56 dX3_nextRow_49 (by decide) (by omega) (fun _ => ?_) (fun h => absurd h (by omega))
  refine J_aload_n C 0 dX3_nextRow_56 rfl ?_
  refine g_X3_36 hG C dX3_nextRow_57 ?_
  refine J_aload_n C 0 dX3_nextRow_60 rfl ?_
  refine g_X3_105 hG C dX3_nextRow_61 ?_
  refine cald hG C 15 8 (by decide) dX3_nextRow_64 (by omega) (by omega) ?_
  refine J_if_ne C 70 dX3_nextRow_65 (by decide) (by omega) (fun h => absurd h (by omega)) (fun _ => ?_)
  refine J_iconst C dX3_nextRow_68 ?_
  exact J_zret R C dX3_nextRow_69 (Or.inl rfl) (jPi.mk (Or.inr ⟨rfl, hw, rfl⟩))
theorem c_nrT {G : jG} (hG : cG G) (S0 : jMem) (nx : Int → Int) (hk : cOK S0) (hs : cS S0) (hd : 0 ≤ S0 6 12 ∧ S0 6 12 < S0 1 4) (hpa : past S0 nx (S0 6 12)) (hph : trS S0 nx (S0 6 12)) : jM G yX3_nextRow cX3_nextRow 1 (some .boolean) 4 92 [.ref (jad G 6)] S0 (jPi (fun v S' => (v = 1 ∧ cpg S' nx (S0 6 12) ∧ dif (S0 6 12) S0 S' ∧ S' 16 (S0 6 12) ≠ 0) ∨ (v = 0 ∧ nx (S0 6 12) = wsum (S0 1 4) (S0 2) (S0 3) (S0 4) (S0 7 (S0 6 12)) 6 ∧ S' = S0))) := by
  refine jM.of (by decide) (Nat.le_of_ble_eq_true rfl) (fun E C R => ?_)
  show J E G 0 [(0, .ref (jad G 6))] [] _
  have hn := hk.1
  obtain ⟨h9, hw0, h14, h15, h16⟩ := id hph
  refine J_aload_n C 0 dX3_nextRow_0 rfl ?_
  refine g_X3_36 hG C dX3_nextRow_1 ?_
  refine J_aload_n C 0 dX3_nextRow_4 rfl ?_
  refine g_X3_105 hG C dX3_nextRow_5 ?_
  refine cald hG C 15 8 (by decide) dX3_nextRow_8 (by omega) (by omega) ?_
  refine J_if_ne C 28 dX3_nextRow_9 (by decide) (by omega) (fun h => absurd h (by omega)) (fun _ => ?_)
  refine J_aload_n C 0 dX3_nextRow_12 rfl ?_
  refine g_X3_33 hG C dX3_nextRow_13 ?_
  refine J_aload_n C 0 dX3_nextRow_16 rfl ?_
  refine g_X3_105 hG C dX3_nextRow_17 ?_
  refine cald hG C 14 8 (by decide) dX3_nextRow_20 (by omega) (by omega) ?_
  refine J_if_ne C 28 dX3_nextRow_21 (by decide) (by omega) (fun h => absurd h (by omega)) (fun _ => ?_)
  refine J_aload_n C 0 dX3_nextRow_24 rfl ?_
  refine J_callV (k := 6) (rest := []) C (c_nextTurn hG S0 nx hk hs hd hph) kc_X3_nextTurn kl_X3_118 (by rw [hG.2]; decide) (by rw [hG.1]; rfl) rfl dX3_nextRow_25 rfl rfl (by decide) (Nat.le_of_ble_eq_true rfl) (J_kv (fun S3 h3 => ?_))
  have hNT := h3
  refine J_lv [0] rfl ?_
  rcases hNT with ⟨hlr, hdf⟩ | ⟨hw, hSe⟩
  · have h62 : S3 6 = S0 6 := hdf.1 6 (by decide)
    exact l_nr28b hG C S0 nx hk hs hd R _ _ rfl ⟨by rw [h62]; exact hlr, hdf, by rw [h62]; exact hpa.agr (fun e e1 e2 => hdf.agr (by omega)) (fun _ _ _ => rfl)⟩
  · rw [hSe]
    exact l_nr28c hG C S0 nx hk hs hd R _ S0 rfl ⟨h15, h14, hw, rfl⟩
theorem c_nrL {G : jG} (hG : cG G) (S0 : jMem) (nx : Int → Int) (hk : cOK S0) (hs : cS S0) (hd : 0 ≤ S0 6 12 ∧ S0 6 12 < S0 1 4) (hpa : past S0 nx (S0 6 12)) (hph : lrS S0 nx (S0 6 12)) : jM G yX3_nextRow cX3_nextRow 1 (some .boolean) 4 92 [.ref (jad G 6)] S0 (jPi (fun v S' => (v = 1 ∧ cpg S' nx (S0 6 12) ∧ dif (S0 6 12) S0 S' ∧ S' 16 (S0 6 12) ≠ 0) ∨ (v = 0 ∧ nx (S0 6 12) = wsum (S0 1 4) (S0 2) (S0 3) (S0 4) (S0 7 (S0 6 12)) 6 ∧ S' = S0))) := by
  refine jM.of (by decide) (Nat.le_of_ble_eq_true rfl) (fun E C R => ?_)
  show J E G 0 [(0, .ref (jad G 6))] [] _
  have hn := hk.1
  obtain ⟨⟨zt, yt, xt, hpr0⟩, hx0, h14, h15, h16⟩ := id hph
  unfold cprog at hpr0
  have l14 : 0 ≤ S0 14 (S0 6 12) := hpr0.2.2.1.1.1
  have l21 := hpr0.2.2.1.1.lt hpr0.2.1.2.2.1
  rw [show (2 : Int) ^ 21 = 2097152 from rfl] at l21
  refine J_aload_n C 0 dX3_nextRow_0 rfl ?_
  refine g_X3_36 hG C dX3_nextRow_1 ?_
  refine J_aload_n C 0 dX3_nextRow_4 rfl ?_
  refine g_X3_105 hG C dX3_nextRow_5 ?_
  refine cald hG C 15 8 (by decide) dX3_nextRow_8 (by omega) (by omega) ?_
  refine J_if_ne C 28 dX3_nextRow_9 (by decide) (by omega) (fun h => absurd h (by omega)) (fun _ => ?_)
  refine J_aload_n C 0 dX3_nextRow_12 rfl ?_
  refine g_X3_33 hG C dX3_nextRow_13 ?_
  refine J_aload_n C 0 dX3_nextRow_16 rfl ?_
  refine g_X3_105 hG C dX3_nextRow_17 ?_
  refine cald hG C 14 8 (by decide) dX3_nextRow_20 (by omega) (by omega) ?_
  refine J_if_ne C 28 dX3_nextRow_21 (by decide) (by omega) (fun _ => ?_) (fun h => absurd h (by omega))
  refine J_lv [0] rfl ?_
  exact l_nr28b hG C S0 nx hk hs hd R _ S0 rfl ⟨hph, dif.rf, hpa⟩
theorem c_nrR {G : jG} (hG : cG G) (S0 : jMem) (nx : Int → Int) (hk : cOK S0) (hs : cS S0) (hd : 0 ≤ S0 6 12 ∧ S0 6 12 < S0 1 4) (hpa : past S0 nx (S0 6 12)) (hph : rrS S0 nx (S0 6 12)) : jM G yX3_nextRow cX3_nextRow 1 (some .boolean) 4 92 [.ref (jad G 6)] S0 (jPi (fun v S' => (v = 1 ∧ cpg S' nx (S0 6 12) ∧ dif (S0 6 12) S0 S' ∧ S' 16 (S0 6 12) ≠ 0) ∨ (v = 0 ∧ nx (S0 6 12) = wsum (S0 1 4) (S0 2) (S0 3) (S0 4) (S0 7 (S0 6 12)) 6 ∧ S' = S0))) := by
  refine jM.of (by decide) (Nat.le_of_ble_eq_true rfl) (fun E C R => ?_)
  show J E G 0 [(0, .ref (jad G 6))] [] _
  have hn := hk.1
  obtain ⟨⟨yt, xt, hpr0⟩, hz0, hx0, h15, h16⟩ := id hph
  unfold cprog at hpr0
  have l15 : 0 ≤ S0 15 (S0 6 12) := hpr0.2.2.1.2.1.1
  have l21 := hpr0.2.2.1.2.1.lt hpr0.2.1.2.1.1
  rw [show (2 : Int) ^ 21 = 2097152 from rfl] at l21
  refine J_aload_n C 0 dX3_nextRow_0 rfl ?_
  refine g_X3_36 hG C dX3_nextRow_1 ?_
  refine J_aload_n C 0 dX3_nextRow_4 rfl ?_
  refine g_X3_105 hG C dX3_nextRow_5 ?_
  refine cald hG C 15 8 (by decide) dX3_nextRow_8 (by omega) (by omega) ?_
  refine J_if_ne C 28 dX3_nextRow_9 (by decide) (by omega) (fun _ => ?_) (fun h => absurd h (by omega))
  refine J_lv [0] rfl ?_
  exact l_nr28a hG C S0 nx hk hs hd R _ S0 rfl ⟨hph, dif.rf, hpa⟩
theorem c_nextRow {G : jG} (hG : cG G) (S0 : jMem) (nx : Int → Int) (hk : cOK S0) (hs : cS S0) (hd : 0 ≤ S0 6 12 ∧ S0 6 12 < S0 1 4) (hpa : past S0 nx (S0 6 12)) (hc : cfr S0 nx (S0 6 12) ∨ cpg S0 nx (S0 6 12)) (h16 : S0 16 (S0 6 12) = 0) : jM G yX3_nextRow cX3_nextRow 1 (some .boolean) 4 92 [.ref (jad G 6)] S0 (jPi (fun v S' => (v = 1 ∧ cpg S' nx (S0 6 12) ∧ dif (S0 6 12) S0 S' ∧ S' 16 (S0 6 12) ≠ 0) ∨ (v = 0 ∧ nx (S0 6 12) = wsum (S0 1 4) (S0 2) (S0 3) (S0 4) (S0 7 (S0 6 12)) 6 ∧ S' = S0))) := by
  rcases hc with h | h
  · exact c_nrT hG S0 nx hk hs hd hpa h.te
  · by_cases h15 : S0 15 (S0 6 12) = 0
    · by_cases h14 : S0 14 (S0 6 12) = 0
      · exact c_nrT hG S0 nx hk hs hd hpa (h.te h16 h15 h14)
      · exact c_nrL hG S0 nx hk hs hd hpa (h.lr h16 h15 h14)
    · exact c_nrR hG S0 nx hk hs hd hpa (h.rr h16 h15)
theorem c_goBack {G : jG} (hG : cG G) (S : jMem) (hd : 0 ≤ S 6 12 ∧ S 6 12 < 8) : jM G yX3_goBack cX3_goBack 1 none 0 0 [.ref (jad G 6)] S (jPv (fun S' => if S 6 12 = 0 then S' = up2 S 6 15 2 else S' = up2 S 6 12 (S 6 12 - 1))) := by
  refine jM.of (by decide) (Nat.le_of_ble_eq_true rfl) (fun E C R => ?_)
  show J E G 0 [(0, .ref (jad G 6))] [] _
  refine J_aload_n C 0 dX3_goBack_0 rfl ?_
  refine g_X3_105 hG C dX3_goBack_1 ?_
  refine J_if_ne C 15 dX3_goBack_4 (by decide) (by omega) (fun h1 => ?_) (fun h1 => ?_)
  · refine J_aload_n C 0 dX3_goBack_15 rfl ?_
    refine J_dup C dX3_goBack_16 rfl ?_
    refine g_X3_105 hG C dX3_goBack_17 ?_
    refine J_iconst C dX3_goBack_20 ?_
    refine J_isub C dX3_goBack_21 ?_
    refine p_X3_105 hG C dX3_goBack_22 ?_
    exact J_vret R C dX3_goBack_25 (jPv.mk (by first | (rw [if_pos (by omega)]) | (rw [if_neg (by omega)])))
  · refine J_aload_n C 0 dX3_goBack_7 rfl ?_
    refine J_iconst C dX3_goBack_8 ?_
    refine p_X3_65 hG C dX3_goBack_9 ?_
    refine J_goto C 25 dX3_goBack_12 (by decide) ?_
    exact J_vret R C dX3_goBack_25 (jPv.mk (by first | (rw [if_pos (by omega)]) | (rw [if_neg (by omega)])))
theorem c_take {G : jG} (hG : cG G) (S : jMem) (f : Int) (hk : cOK S) (hd : 0 ≤ S 6 12 ∧ S 6 12 < S 1 4) : jM G yX3_take cX3_take 2 none 1 23 [.ref (jad G 6), .int (iI (f))] S (jPv (fun S' => if S 6 12 + 1 < S 1 4 then S' = enM (saM S 0 f) (S 6 12 + 1) else S' = up2 (saM S 0 f) 6 15 1)) := by
  refine jM.of (by decide) (Nat.le_of_ble_eq_true rfl) (fun E C R => ?_)
  show J E G 0 [(0, .ref (jad G 6)), (1, .int (iI (f)))] [] _
  have hn := hk.1
  refine J_aload_n C 0 dX3_take_0 rfl ?_
  refine J_iconst C dX3_take_1 ?_
  refine J_iload_n C 1 dX3_take_2 rfl ?_
  refine J_callV (k := 6) (rest := []) C (c_setAxis hG S (0) (f) (by omega) (by omega)) kc_X3_setAxis kl_X3_127 (by rw [hG.2]; decide) (by rw [hG.1]; rfl) rfl dX3_take_3 rfl rfl (by decide) (Nat.le_of_ble_eq_true rfl) (J_kv (fun S1 h1 => ?_))
  subst h1
  refine J_aload_n C 0 dX3_take_6 rfl ?_
  refine g_X3_105 hG C dX3_take_7 ?_
  refine J_top (b := S 6 12) (rd_k (by decide) (rd_k (by decide) (rfl))) ?_
  refine J_iconst C dX3_take_10 ?_
  refine J_iadd C dX3_take_11 ?_
  refine J_aload_n C 0 dX3_take_12 rfl ?_
  refine g_X3_45 hG C dX3_take_13 ?_
  refine g_X3_52 hG C dX3_take_16 ?_
  refine J_top (b := S 1 4) (rd_k (by decide) (rd_k (by decide) (rfl))) ?_
  refine J_icmp_ge C 35 dX3_take_19 (by decide) (by omega) (by omega) (fun h2 => ?_) (fun h2 => ?_)
  · refine J_aload_n C 0 dX3_take_35 rfl ?_
    refine J_iconst C dX3_take_36 ?_
    refine p_X3_65 hG C dX3_take_37 ?_
    exact J_vret R C dX3_take_40 (jPv.mk (by (first | rw [if_pos (by omega)] | rw [if_neg (by omega)]) <;> rfl))
  · refine J_aload_n C 0 dX3_take_22 rfl ?_
    refine J_aload_n C 0 dX3_take_23 rfl ?_
    refine g_X3_105 hG C dX3_take_24 ?_
    refine J_top (b := S 6 12) (rd_k (by decide) (rd_k (by decide) (rfl))) ?_
    refine J_iconst C dX3_take_27 ?_
    refine J_iadd C dX3_take_28 ?_
    refine J_callV (k := 6) (rest := []) C (c_enter hG (up2 (up2 S 12 (S 6 12 * 3 + 0) (f)) 13 (S 6 12 * 3 + 0) (f + S 10 (S 6 12 * 3 + 0))) ((S 6 12) + (1)) (by omega)) kc_X3_enter kl_X3_68 (by rw [hG.2]; decide) (by rw [hG.1]; rfl) rfl dX3_take_29 rfl rfl (by decide) (Nat.le_of_ble_eq_true rfl) (J_kv (fun S3 h3 => ?_))
    subst h3
    refine J_goto C 40 dX3_take_32 (by decide) ?_
    exact J_vret R C dX3_take_40 (jPv.mk (by (first | rw [if_pos (by omega)] | rw [if_neg (by omega)]) <;> rfl))
def lbI (S0 : jMem) (d k : Int) (S : jMem) : Prop := only 16 S0 S ∧ (∀ e, e ≠ d → S 16 e = S0 16 e) ∧ ∃ t, -1 ≤ t ∧ sx (S0 16 d) t (S 16 d) ∧ zcnt (S0 16 d) = k + zcnt (S 16 d)
theorem lbI.step {S0 S : jMem} {d k l : Int} (h : lbI S0 d k S) (hw : 0 ≤ S0 16 d ∧ S0 16 d < 2 ^ 21) (hp : 0 < S 16 d) (hl : isLow (S 16 d) l) : lbI S0 d (k + 1) (up2 S 16 d (zand (S 16 d) (S 16 d - 1))) := by
  obtain ⟨h1, h2, t, h3, h4, h5⟩ := h
  obtain ⟨o1, o2, o3⟩ := h4.off hp hl
  have z := zcnt_off ⟨hp, h4.lt hw⟩ hl
  refine ⟨h1.up _ _, fun e he => by rw [up2_a _ _ _ he]; exact h2 e he, l, by omega, ?_, ?_⟩
  · rw [up2_eq]; exact o1
  · rw [up2_eq]; omega
theorem l_lab {E : jEnv} {G : jG} (hG : cG G) (C : jX E G cX3_lookAtBlocked 2 RX3 0 0) (S0 : jMem) (hd : 0 ≤ S0 6 12 ∧ S0 6 12 < 8) (hw : 0 ≤ S0 16 (S0 6 12) ∧ S0 16 (S0 6 12) < 2 ^ 21) (hl : 0 ≤ S0 6 13 ∧ S0 6 13 ≤ zcnt (S0 16 (S0 6 12))) (R : jR E G none (jPv (fun S' => ∃ Sk, lbI S0 (S0 6 12) (S0 6 13) Sk ∧ S' = up2 (up2 Sk 6 14 (S0 6 14 + S0 6 13)) 6 13 0))) : ∀ (mm : Nat) (k : Int) (S : jMem), mm = (S0 6 13 - k).toNat → ((0 ≤ k ∧ k ≤ S0 6 13) ∧ lbI S0 (S0 6 12) k S) → J E G 2 [(0, .ref (jad G 6)), (1, .int (iI (k)))] [] S := by
  intro mm
  induction mm using Nat.strongRecOn with | ind mm ih => ?_
  intro k S hm hi
  obtain ⟨hkk, hj⟩ := hi
  have h6 : S 6 = S0 6 := hj.1 6 (by decide)
  have e12 : S 6 12 = S0 6 12 := by rw [h6]
  have e13 : S 6 13 = S0 6 13 := by rw [h6]
  have e14 : S 6 14 = S0 6 14 := by rw [h6]
  have hzn := zcnt_nn (S0 16 (S0 6 12))
  refine J_iload_n C 1 dX3_lookAtBlocked_2 rfl ?_
  refine J_aload_n C 0 dX3_lookAtBlocked_3 rfl ?_
  refine g_X3_101 hG C dX3_lookAtBlocked_4 ?_
  refine J_icmp_ge C 39 dX3_lookAtBlocked_7 (by decide) (by omega) (by omega) (fun h1 => ?_) (fun h1 => ?_)
  · refine J_aload_n C 0 dX3_lookAtBlocked_39 rfl ?_
    refine J_dup C dX3_lookAtBlocked_40 rfl ?_
    refine g_X3_62 hG C dX3_lookAtBlocked_41 ?_
    refine J_aload_n C 0 dX3_lookAtBlocked_44 rfl ?_
    refine g_X3_101 hG C dX3_lookAtBlocked_45 ?_
    refine J_iadd C dX3_lookAtBlocked_48 ?_
    refine p_X3_62 hG C dX3_lookAtBlocked_49 ?_
    refine J_aload_n C 0 dX3_lookAtBlocked_52 rfl ?_
    refine J_iconst C dX3_lookAtBlocked_53 ?_
    refine p_X3_101 hG C dX3_lookAtBlocked_54 ?_
    have ek : k = S0 6 13 := by omega
    rw [ek] at hj
    refine J_vret R C dX3_lookAtBlocked_57 (jPv.mk ⟨S, hj, ?_⟩)
    rw [e14, e13]
  · obtain ⟨t, ht, hsx, hzc⟩ := hj.2.2
    have h16n : S 16 (S0 6 12) ≠ 0 := fun q => by rw [q, zcnt_0] at hzc; omega
    have h16p : 0 < S 16 (S0 6 12) := by have := hsx.1; omega
    have h16l := hsx.lt hw
    rw [show (2 : Int) ^ 21 = 2097152 from rfl] at h16l
    obtain ⟨x, hlow⟩ := isLow.ex h16p
    rw [← e12] at h16p h16l
    refine J_aload_n C 0 dX3_lookAtBlocked_10 rfl ?_
    refine g_X3_39 hG C dX3_lookAtBlocked_11 ?_
    refine J_aload_n C 0 dX3_lookAtBlocked_14 rfl ?_
    refine g_X3_105 hG C dX3_lookAtBlocked_15 ?_
    refine J_dup2 C dX3_lookAtBlocked_18 rfl rfl ?_
    refine cald hG C 16 8 (by decide) dX3_lookAtBlocked_19 (by omega) (by omega) ?_
    refine J_aload_n C 0 dX3_lookAtBlocked_20 rfl ?_
    refine g_X3_39 hG C dX3_lookAtBlocked_21 ?_
    refine J_aload_n C 0 dX3_lookAtBlocked_24 rfl ?_
    refine g_X3_105 hG C dX3_lookAtBlocked_25 ?_
    refine cald hG C 16 8 (by decide) dX3_lookAtBlocked_28 (by omega) (by omega) ?_
    refine J_iconst C dX3_lookAtBlocked_29 ?_
    refine J_isub C dX3_lookAtBlocked_30 ?_
    refine J_iand C (zand (S 16 (S 6 12)) ((S 16 (S 6 12)) - (1))) dX3_lookAtBlocked_31 (iI_zand (by omega) (by omega) (by omega) (by omega)) ?_
    refine cast hG C 16 8 (by decide) dX3_lookAtBlocked_32 (by omega) (by omega) ?_
    refine J_iinc (lv' := [(1, .int (iI (k + 1))), (0, .ref (jad G 6))]) C 1 dX3_lookAtBlocked_33 rfl (by decide) rfl ?_
    refine J_goto C 2 dX3_lookAtBlocked_36 (by decide) ?_
    refine J_lv [1, 0] rfl ?_
    rw [e12] at *
    exact ih _ (by omega) (k + 1) _ rfl ⟨by omega, hj.step hw h16p hlow⟩
theorem c_lab {G : jG} (hG : cG G) (S0 : jMem) (hd : 0 ≤ S0 6 12 ∧ S0 6 12 < 8) (hw : 0 ≤ S0 16 (S0 6 12) ∧ S0 16 (S0 6 12) < 2 ^ 21) (hl : 0 ≤ S0 6 13 ∧ S0 6 13 ≤ zcnt (S0 16 (S0 6 12))) : jM G yX3_lookAtBlocked cX3_lookAtBlocked 2 none 0 0 [.ref (jad G 6)] S0 (jPv (fun S' => ∃ Sk, lbI S0 (S0 6 12) (S0 6 13) Sk ∧ S' = up2 (up2 Sk 6 14 (S0 6 14 + S0 6 13)) 6 13 0)) := by
  refine jM.of (by decide) (Nat.le_of_ble_eq_true rfl) (fun E C R => ?_)
  show J E G 0 [(0, .ref (jad G 6))] [] _
  refine J_iconst C dX3_lookAtBlocked_0 ?_
  refine J_istore_n (lv' := [(1, .int (iI (0))), (0, .ref (jad G 6))]) C dX3_lookAtBlocked_1 (by decide) rfl ?_
  refine J_lv [1, 0] rfl ?_
  exact l_lab hG C S0 hd hw hl R _ 0 S0 rfl ⟨by omega, only.rf, fun _ _ => rfl, -1, by omega, sx.full hw.1, by omega⟩
