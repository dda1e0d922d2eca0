def or2 (S0 : jMem) (k : Int) (S : jMem) : Prop := only 7 S0 S ∧ isOrd (pvol (S0 3)) k.toNat (S 7)
def or3 (S0 : jMem) (k : Int) (f : Int → Int) (i : Int) (S : jMem) : Prop := only 7 S0 S ∧ shI (pvol (S0 3)) f k i (S 7)
theorem or2.go {S0 S : jMem} {k : Int} (h : or2 S0 k S) (hk : 0 ≤ k) : or3 S0 k (S 7) k S := ⟨h.1, ⟨by omega, fun _ _ _ => rfl, fun j a b => by omega, fun j a b => by omega⟩⟩
theorem or3.done {S0 S : jMem} {k i : Int} {f : Int → Int} (h : or3 S0 k f i S) (hk : 0 ≤ k) (hf : isOrd (pvol (S0 3)) k.toNat f) (he : i ≤ 0 ∨ pvol (S0 3) k ≤ pvol (S0 3) (f (i - 1))) : or2 S0 (k + 1) (up2 S 7 i k) := by
  refine ⟨h.1.up _ _, ?_⟩
  rw [show (k + 1).toNat = k.toNat + 1 by omega]
  refine ⟨f, hf, ?_⟩
  rw [Int.toNat_of_nonneg hk, up2_s]
  exact h.2.done he
theorem or3.step {S0 S : jMem} {k i : Int} {f : Int → Int} (h : or3 S0 k f i S) (hi : 0 < i) (hv : pvol (S0 3) (f (i - 1)) < pvol (S0 3) k) : or3 S0 k f (i - 1) (up2 S 7 i (S 7 (i - 1))) := ⟨h.1.up _ _, by rw [up2_s]; exact h.2.step hi hv⟩
theorem l_or3 {E : jEnv} {G : jG} (hG : cG G) (C : jX E G cX3_orderBoxes 3 RX3 1 21) (S0 : jMem) (k : Int) (f : Int → Int) (hk : cOK S0) (hkk : 0 ≤ k ∧ k < 8) (hf : isOrd (pvol (S0 3)) k.toNat f) : ∀ (mm : Nat) (i : Int) (S : jMem), mm = (i).toNat → ((0 ≤ i ∧ i ≤ k) ∧ or3 S0 k f i S) → (∀ S', or2 S0 (k + 1) S' → J E G 72 [(0, .ref (jad G 6)), (1, .int (iI k))] [] S') → J E G 15 [(0, .ref (jad G 6)), (1, .int (iI (k))), (2, .int (iI (i)))] [] S := by
  intro mm
  induction mm using Nat.strongRecOn with | ind mm ih => ?_
  intro i S hm hi K
  obtain ⟨ht, hj⟩ := hi
  refine J_iload_n C 2 dX3_orderBoxes_15 rfl ?_
  refine J_if_le C 65 dX3_orderBoxes_16 (by decide) (by omega) (fun h1 => ?_) (fun h1 => ?_)
  · refine J_aload_n C 0 dX3_orderBoxes_65 rfl ?_
    refine g_X3_9 hG C dX3_orderBoxes_66 ?_
    refine J_iload_n C 2 dX3_orderBoxes_69 rfl ?_
    refine J_iload_n C 1 dX3_orderBoxes_70 rfl ?_
    refine cast hG C 7 8 (by decide) dX3_orderBoxes_71 (by omega) (by omega) ?_
    refine J_lv [0, 1] rfl ?_
    exact K _ (hj.done (by omega) hf (Or.inl (by omega)))
  · have e2 : S 7 (i - 1) = f (i - 1) := hj.2.2.1 (i - 1) (by omega) (by omega)
    have e3 := isOrd.in _ hf (i - 1) (by omega) (by omega)
    refine J_aload_n C 0 dX3_orderBoxes_19 rfl ?_
    refine g_X3_45 hG C dX3_orderBoxes_20 ?_
    refine J_aload_n C 0 dX3_orderBoxes_23 rfl ?_
    refine g_X3_9 hG C dX3_orderBoxes_24 ?_
    refine J_iload_n C 2 dX3_orderBoxes_27 rfl ?_
    refine J_iconst C dX3_orderBoxes_28 ?_
    refine J_isub C dX3_orderBoxes_29 ?_
    refine cald hG C 7 8 (by decide) dX3_orderBoxes_30 (by omega) (by omega) ?_
    refine J_callV (k := 1) (rest := []) C (c_volume hG S (S 7 ((i) - (1))) (by omega)) kc_X4_volume kl_X3_72 (by rw [hG.2]; decide) (by rw [hG.1]; rfl) rfl dX3_orderBoxes_31 rfl rfl (by decide) (Nat.le_of_ble_eq_true rfl) (J_ki (fun v2 S2 h2 => ?_))
    obtain ⟨rfl, rfl⟩ := h2
    refine J_top (b := pvol (S0 3) (S 7 ((i) - (1)))) (by unfold pvol; rw [hj.1 3 (by decide)]) ?_
    have _ := pvol_in hk (b := S 7 ((i) - (1))) (by omega)
    refine J_aload_n C 0 dX3_orderBoxes_34 rfl ?_
    refine g_X3_45 hG C dX3_orderBoxes_35 ?_
    refine J_iload_n C 1 dX3_orderBoxes_38 rfl ?_
    refine J_callV (k := 1) (rest := [.int (iI (pvol (S0 3) (S 7 ((i) - (1)))))]) C (c_volume hG S (k) (by omega)) kc_X4_volume kl_X3_72 (by rw [hG.2]; decide) (by rw [hG.1]; rfl) rfl dX3_orderBoxes_39 rfl rfl (by decide) (Nat.le_of_ble_eq_true rfl) (J_ki (fun v3 S3 h3 => ?_))
    obtain ⟨rfl, rfl⟩ := h3
    refine J_top (b := pvol (S0 3) (k)) (by unfold pvol; rw [hj.1 3 (by decide)]) ?_
    have _ := pvol_in hk (b := k) (by omega)
    refine J_icmp_ge C 65 dX3_orderBoxes_42 (by decide) (by omega) (by omega) (fun h4 => ?_) (fun h4 => ?_)
    · refine J_aload_n C 0 dX3_orderBoxes_65 rfl ?_
      refine g_X3_9 hG C dX3_orderBoxes_66 ?_
      refine J_iload_n C 2 dX3_orderBoxes_69 rfl ?_
      refine J_iload_n C 1 dX3_orderBoxes_70 rfl ?_
      refine cast hG C 7 8 (by decide) dX3_orderBoxes_71 (by omega) (by omega) ?_
      refine J_lv [0, 1] rfl ?_
      exact K _ (hj.done (by omega) hf (Or.inr (by rw [← e2]; omega)))
    · refine J_aload_n C 0 dX3_orderBoxes_45 rfl ?_
      refine g_X3_9 hG C dX3_orderBoxes_46 ?_
      refine J_iload_n C 2 dX3_orderBoxes_49 rfl ?_
      refine J_aload_n C 0 dX3_orderBoxes_50 rfl ?_
      refine g_X3_9 hG C dX3_orderBoxes_51 ?_
      refine J_iload_n C 2 dX3_orderBoxes_54 rfl ?_
      refine J_iconst C dX3_orderBoxes_55 ?_
      refine J_isub C dX3_orderBoxes_56 ?_
      refine cald hG C 7 8 (by decide) dX3_orderBoxes_57 (by omega) (by omega) ?_
      refine cast hG C 7 8 (by decide) dX3_orderBoxes_58 (by omega) (by omega) ?_
      refine J_iinc (lv' := [(2, .int (iI (i + (-1)))), (0, .ref (jad G 6)), (1, .int (iI (k)))]) C 2 dX3_orderBoxes_59 rfl (by decide) rfl ?_
      refine J_goto C 15 dX3_orderBoxes_62 (by decide) ?_
      refine J_lv [1, 2, 0] rfl ?_
      have e4 : pvol (S0 3) (f (i - 1)) < pvol (S0 3) k := by rw [← e2]; omega
      exact ih _ (by omega) (i - 1) _ rfl ⟨by omega, hj.step (by omega) e4⟩ K
theorem l_or2 {E : jEnv} {G : jG} (hG : cG G) (C : jX E G cX3_orderBoxes 3 RX3 1 21) (S0 : jMem) (hk : cOK S0) (R : jR E G none (jPv (fun S' => or2 S0 (S0 1 4) S'))) : ∀ (mm : Nat) (k : Int) (S : jMem), mm = (S0 1 4 - k).toNat → ((0 ≤ k ∧ k ≤ S0 1 4) ∧ or2 S0 k S) → J E G 2 [(0, .ref (jad G 6)), (1, .int (iI (k)))] [] S := by
  intro mm
  induction mm using Nat.strongRecOn with | ind mm ih => ?_
  intro k S hm hi
  obtain ⟨hkk, hj⟩ := hi
  have hn := hk.1
  have e1 : S 1 4 = S0 1 4 := by rw [hj.1 1 (by decide)]
  refine J_iload_n C 1 dX3_orderBoxes_2 rfl ?_
  refine J_aload_n C 0 dX3_orderBoxes_3 rfl ?_
  refine g_X3_45 hG C dX3_orderBoxes_4 ?_
  refine g_X3_52 hG C dX3_orderBoxes_7 ?_
  refine J_icmp_ge C 78 dX3_orderBoxes_10 (by decide) (by omega) (by omega) (fun h1 => ?_) (fun h1 => ?_)
  · have ek : k = S0 1 4 := by omega
    rw [ek] at hj
    exact J_vret R C dX3_orderBoxes_78 (jPv.mk hj)
  · refine J_iload_n C 1 dX3_orderBoxes_13 rfl ?_
    refine J_istore_n (lv' := [(2, .int (iI (k))), (0, .ref (jad G 6)), (1, .int (iI (k)))]) C dX3_orderBoxes_14 (by decide) rfl ?_
    refine J_lv [1, 2, 0] rfl ?_
    refine l_or3 hG C S0 k (S 7) hk (by omega) hj.2 _ k S rfl ⟨by omega, hj.go (by omega)⟩ (fun S2 hj2 => ?_)
    refine J_iinc (lv' := [(1, .int (iI (k + 1))), (0, .ref (jad G 6))]) C 1 dX3_orderBoxes_72 rfl (by decide) rfl ?_
    refine J_goto C 2 dX3_orderBoxes_75 (by decide) ?_
    refine J_lv [1, 0] rfl ?_
    exact ih _ (by omega) (k + 1) S2 rfl ⟨by omega, hj2⟩
theorem c_order {G : jG} (hG : cG G) (S0 : jMem) (hk : cOK S0) : jM G yX3_orderBoxes cX3_orderBoxes 3 none 1 21 [.ref (jad G 6)] S0 (jPv (fun S' => or2 S0 (S0 1 4) S')) := by
  refine jM.of (by decide) (Nat.le_of_ble_eq_true rfl) (fun E C R => ?_)
  show J E G 0 [(0, .ref (jad G 6))] [] _
  have hn := hk.1
  refine J_iconst C dX3_orderBoxes_0 ?_
  refine J_istore_n (lv' := [(1, .int (iI (0))), (0, .ref (jad G 6))]) C dX3_orderBoxes_1 (by decide) rfl ?_
  refine J_lv [1, 0] rfl ?_
  exact l_or2 hG C S0 hk R _ 0 S0 rfl ⟨by omega, only.rf, trivial⟩
theorem l_we {E : jEnv} {G : jG} (hG : cG G) (C : jX E G cX3_withExtents 6 RX3 1 23) (S : jMem) (x o a : Int) (hk : cOK S) (hx : 0 ≤ x) (ho : 0 ≤ o ∧ o < 8) (ha : 0 ≤ a ∧ a < 3) (R : jR E G (some .int) (jPi (fun v S' => weI (S 3) (S 4) x o a 6 v ∧ S = S'))) : ∀ (mm : Nat) (g t : Int), mm = (6 - t).toNat → ((0 ≤ t ∧ t ≤ 6) ∧ weI (S 3) (S 4) x o a t g) → J E G 6 [(0, .ref (jad G 6)), (1, .int (iI (x))), (2, .int (iI (o))), (3, .int (iI (a))), (4, .int (iI (g))), (5, .int (iI (t)))] [] S := by
  intro mm
  induction mm using Nat.strongRecOn with | ind mm ih => ?_
  intro g t hm hi
  obtain ⟨ht, hj⟩ := hi
  have hg := hj.1
  refine J_iload C 5 dX3_withExtents_6 rfl ?_
  refine J_bipush C dX3_withExtents_8 (by decide) ?_
  refine J_icmp_ge C 50 dX3_withExtents_10 (by decide) (by omega) (by omega) (fun h1 => ?_) (fun h1 => ?_)
  · refine J_iload C 4 dX3_withExtents_50 rfl ?_
    have et : t = 6 := by omega
    rw [et] at hj
    exact J_iret R C dX3_withExtents_52 (jPi.mk ⟨hj, rfl⟩)
  · refine J_aload_n C 0 dX3_withExtents_13 rfl ?_
    refine g_X3_45 hG C dX3_withExtents_14 ?_
    refine J_iload_n C 2 dX3_withExtents_17 rfl ?_
    refine J_iload C 5 dX3_withExtents_18 rfl ?_
    refine J_callV (k := 1) (rest := []) C (c_hasTurn hG S (o) (t) hk (by omega) (by omega)) kc_X4_hasTurn kl_X3_83 (by rw [hG.2]; decide) (by rw [hG.1]; rfl) rfl dX3_withExtents_20 rfl rfl (by decide) (Nat.le_of_ble_eq_true rfl) (J_ki (fun v2 S2 h2 => ?_))
    obtain ⟨rfl, rfl⟩ := h2
    refine J_if_eq_b C 44 dX3_withExtents_23 (by decide) (fun h3 => ?_) (fun h3 => ?_)
    · refine J_iinc (lv' := [(5, .int (iI (t + 1))), (0, .ref (jad G 6)), (1, .int (iI (x))), (2, .int (iI (o))), (3, .int (iI (a))), (4, .int (iI (g)))]) C 5 dX3_withExtents_44 rfl (by decide) rfl ?_
      refine J_goto C 6 dX3_withExtents_47 (by decide) ?_
      refine J_lv [1, 2, 3, 4, 5, 0] rfl ?_
      exact ih _ (by omega) _ (t + 1) rfl ⟨by omega, hj.off ht.1 (by assumption)⟩
    · refine J_iload C 4 dX3_withExtents_26 rfl ?_
      refine J_iload_n C 1 dX3_withExtents_28 rfl ?_
      refine J_aload_n C 0 dX3_withExtents_29 rfl ?_
      refine g_X3_45 hG C dX3_withExtents_30 ?_
      refine J_iload_n C 2 dX3_withExtents_33 rfl ?_
      refine J_iload C 5 dX3_withExtents_34 rfl ?_
      refine J_iload_n C 3 dX3_withExtents_36 rfl ?_
      refine J_callV (k := 1) (rest := [.int (iI (x)), .int (iI (g))]) C (c_extent hG S (o) (t) (a) (by omega) (by omega) (by omega)) kc_X4_extent kl_X3_87 (by rw [hG.2]; decide) (by rw [hG.1]; rfl) rfl dX3_withExtents_37 rfl rfl (by decide) (Nat.le_of_ble_eq_true rfl) (J_ki (fun v4 S4 h4 => ?_))
      obtain ⟨rfl, rfl⟩ := h4
      have q1 := pext_in hk (b := o) (t := t) (a := a) (by omega) (by omega)
      refine J_ishl C dX3_withExtents_40 (by omega) (by omega) ?_
      have hmp := mulp_nn hx (pext (S 3) o t a).toNat
      refine J_ior C (zor (g) ((x) * 2 ^ (pext (S 3) (o) (t) (a)).toNat)) dX3_withExtents_41 (iI_zorU (by omega) (by omega)) ?_
      refine J_istore (lv' := [(4, .int (iI (zor (g) ((x) * 2 ^ (pext (S 3) (o) (t) (a)).toNat)))), (0, .ref (jad G 6)), (1, .int (iI (x))), (2, .int (iI (o))), (3, .int (iI (a))), (5, .int (iI (t)))]) C dX3_withExtents_42 (by decide) rfl ?_
      refine J_iinc (lv' := [(5, .int (iI (t + 1))), (4, .int (iI (zor (g) ((x) * 2 ^ (pext (S 3) (o) (t) (a)).toNat)))), (0, .ref (jad G 6)), (1, .int (iI (x))), (2, .int (iI (o))), (3, .int (iI (a)))]) C 5 dX3_withExtents_44 rfl (by decide) rfl ?_
      refine J_goto C 6 dX3_withExtents_47 (by decide) ?_
      refine J_lv [2, 3, 4, 5, 1, 0] rfl ?_
      exact ih _ (by omega) _ (t + 1) rfl ⟨by omega, hj.on hx ht.1 (by omega) (by assumption)⟩
theorem c_we {G : jG} (hG : cG G) (S : jMem) (x o a : Int) (hk : cOK S) (hx : 0 ≤ x) (ho : 0 ≤ o ∧ o < 8) (ha : 0 ≤ a ∧ a < 3) : jM G yX3_withExtents cX3_withExtents 6 (some .int) 1 23 [.ref (jad G 6), .int (iI (x)), .int (iI (o)), .int (iI (a))] S (jPi (fun v S' => weI (S 3) (S 4) x o a 6 v ∧ S = S')) := by
  refine jM.of (by decide) (Nat.le_of_ble_eq_true rfl) (fun E C R => ?_)
  show J E G 0 [(0, .ref (jad G 6)), (1, .int (iI (x))), (2, .int (iI (o))), (3, .int (iI (a)))] [] _
  refine J_iload_n C 1 dX3_withExtents_0 rfl ?_
  refine J_istore (lv' := [(4, .int (iI (x))), (0, .ref (jad G 6)), (1, .int (iI (x))), (2, .int (iI (o))), (3, .int (iI (a)))]) C dX3_withExtents_1 (by decide) rfl ?_
  refine J_iconst C dX3_withExtents_3 ?_
  refine J_istore (lv' := [(5, .int (iI (0))), (4, .int (iI (x))), (0, .ref (jad G 6)), (1, .int (iI (x))), (2, .int (iI (o))), (3, .int (iI (a)))]) C dX3_withExtents_4 (by decide) rfl ?_
  refine J_lv [2, 3, 4, 5, 1, 0] rfl ?_
  exact l_we hG C S x o a hk hx ho ha R _ x 0 rfl ⟨by omega, hx, fun p hp => ⟨Or.inl, fun q => q.elim id (fun q => absurd q anyB_n)⟩⟩
theorem l_sums {E : jEnv} {G : jG} (hG : cG G) (C : jX E G cX3_sumsOfOthers 6 RX3 2 48) (S : jMem) (b a : Int) (hk : cOK S) (hb : 0 ≤ b ∧ b < S 1 4) (ha : 0 ≤ a ∧ a < 3) (R : jR E G (some .int) (jPi (fun v S' => coA (S 1 4) (S 2) (S 3) (S 4) b a v ∧ S = S'))) : ∀ (mm : Nat) (x k : Int), mm = (S 1 4 - k).toNat → ((0 ≤ k ∧ k ≤ S 1 4) ∧ soI (S 2) (S 3) (S 4) b a k x) → J E G 20 [(0, .ref (jad G 6)), (1, .int (iI (b))), (2, .int (iI (a))), (3, .int (iI (((2) * 2 ^ (S 2 (a)).toNat) - (1)))), (4, .int (iI (x))), (5, .int (iI (k)))] [] S := by
  intro mm
  induction mm using Nat.strongRecOn with | ind mm ih => ?_
  intro x k hm hi
  obtain ⟨hkk, hj⟩ := hi
  have hn := hk.1
  have hL := hk.2.1 a ha.1 ha.2
  have hms := mask_in (L := S 2 a) (by omega) (by omega)
  have hx := hj.1
  rw [show (2 : Int) ^ 21 = 2097152 from rfl] at hx
  refine J_iload C 5 dX3_sumsOfOthers_20 rfl ?_
  refine J_aload_n C 0 dX3_sumsOfOthers_22 rfl ?_
  refine g_X3_45 hG C dX3_sumsOfOthers_23 ?_
  refine g_X3_52 hG C dX3_sumsOfOthers_26 ?_
  refine J_icmp_ge C 57 dX3_sumsOfOthers_29 (by decide) (by omega) (by omega) (fun h1 => ?_) (fun h1 => ?_)
  · refine J_iload C 4 dX3_sumsOfOthers_57 rfl ?_
    have et : k = S 1 4 := by omega
    rw [et] at hj
    exact J_iret R C dX3_sumsOfOthers_59 (jPi.mk ⟨hj, rfl⟩)
  · refine J_iload C 5 dX3_sumsOfOthers_32 rfl ?_
    refine J_iload_n C 1 dX3_sumsOfOthers_34 rfl ?_
    refine J_icmp_eq C 51 dX3_sumsOfOthers_35 (by decide) (by omega) (by omega) (fun h2 => ?_) (fun h2 => ?_)
    · refine J_iinc (lv' := [(5, .int (iI (k + 1))), (0, .ref (jad G 6)), (1, .int (iI (b))), (2, .int (iI (a))), (3, .int (iI (((2) * 2 ^ (S 2 (a)).toNat) - (1)))), (4, .int (iI (x)))]) C 5 dX3_sumsOfOthers_51 rfl (by decide) rfl ?_
      refine J_goto C 20 dX3_sumsOfOthers_54 (by decide) ?_
      have ek : k = b := by omega
      subst ek
      refine J_lv [1, 2, 3, 4, 5, 0] rfl ?_
      exact ih _ (by omega) _ (k + 1) rfl ⟨by omega, hj.skip hkk.1⟩
    · refine J_aload_n C 0 dX3_sumsOfOthers_38 rfl ?_
      refine J_iload C 4 dX3_sumsOfOthers_39 rfl ?_
      refine J_iload C 5 dX3_sumsOfOthers_41 rfl ?_
      refine J_iload_n C 2 dX3_sumsOfOthers_43 rfl ?_
      refine J_callV (k := 6) (rest := []) C (c_we hG S (x) (k) (a) hk (by omega) (by omega) (by omega)) kc_X3_withExtents kl_X3_79 (by rw [hG.2]; decide) (by rw [hG.1]; rfl) rfl dX3_sumsOfOthers_44 rfl rfl (by decide) (Nat.le_of_ble_eq_true rfl) (J_ki (fun v3 S3 h3 => ?_))
      obtain ⟨hwe, hSe⟩ := h3
      subst hSe
      have hwn := hwe.1
      refine J_iload_n C 3 dX3_sumsOfOthers_47 rfl ?_
      refine J_iand C (zand (v3) (((2) * 2 ^ (S 2 (a)).toNat) - (1))) dX3_sumsOfOthers_48 (iI_zandU (by omega) (by omega)) ?_
      refine J_istore (lv' := [(4, .int (iI (zand (v3) (((2) * 2 ^ (S 2 (a)).toNat) - (1))))), (0, .ref (jad G 6)), (1, .int (iI (b))), (2, .int (iI (a))), (3, .int (iI (((2) * 2 ^ (S 2 (a)).toNat) - (1)))), (5, .int (iI (k)))]) C dX3_sumsOfOthers_49 (by decide) rfl ?_
      refine J_iinc (lv' := [(5, .int (iI (k + 1))), (4, .int (iI (zand (v3) (((2) * 2 ^ (S 2 (a)).toNat) - (1))))), (0, .ref (jad G 6)), (1, .int (iI (b))), (2, .int (iI (a))), (3, .int (iI (((2) * 2 ^ (S 2 (a)).toNat) - (1))))]) C 5 dX3_sumsOfOthers_51 rfl (by decide) rfl ?_
      refine J_goto C 20 dX3_sumsOfOthers_54 (by decide) ?_
      refine J_lv [2, 3, 4, 5, 1, 0] rfl ?_
      exact ih _ (by omega) _ (k + 1) rfl ⟨by omega, hj.step hk (by omega) ha (by omega) hwe⟩
theorem soI.ini {n : Int} {len sid tb wt : Int → Int} (hk : sOK n len sid tb wt) {b a : Int} (ha : 0 ≤ a ∧ a < 3) : soI len sid tb b a 0 1 := by
  have hL := hk.2.1 a ha.1 ha.2
  refine ⟨⟨by omega, by decide⟩, fun p hp => ?_⟩
  have := zbit_pow (n := 0) (j := p) (by omega) hp
  rw [show (1 * 2 ^ (0 : Int).toNat : Int) = 1 from rfl] at this
  rw [this]
  show p = 0 ↔ p ≤ len a ∧ p = 0
  omega
theorem c_sums {G : jG} (hG : cG G) (S : jMem) (b a : Int) (hk : cOK S) (hb : 0 ≤ b ∧ b < S 1 4) (ha : 0 ≤ a ∧ a < 3) : jM G yX3_sumsOfOthers cX3_sumsOfOthers 6 (some .int) 2 48 [.ref (jad G 6), .int (iI (b)), .int (iI (a))] S (jPi (fun v S' => coA (S 1 4) (S 2) (S 3) (S 4) b a v ∧ S = S')) := by
  refine jM.of (by decide) (Nat.le_of_ble_eq_true rfl) (fun E C R => ?_)
  show J E G 0 [(0, .ref (jad G 6)), (1, .int (iI (b))), (2, .int (iI (a)))] [] _
  have hn := hk.1
  have hL := hk.2.1 a ha.1 ha.2
  refine J_iconst C dX3_sumsOfOthers_0 ?_
  refine J_aload_n C 0 dX3_sumsOfOthers_1 rfl ?_
  refine g_X3_45 hG C dX3_sumsOfOthers_2 ?_
  refine g_X3_76 hG C dX3_sumsOfOthers_5 ?_
  refine J_iload_n C 2 dX3_sumsOfOthers_8 rfl ?_
  refine cald hG C 2 3 (by decide) dX3_sumsOfOthers_9 (by omega) (by omega) ?_
  refine J_ishl C dX3_sumsOfOthers_10 (by omega) (by omega) ?_
  refine J_iconst C dX3_sumsOfOthers_11 ?_
  refine J_isub C dX3_sumsOfOthers_12 ?_
  refine J_istore_n (lv' := [(3, .int (iI (((2) * 2 ^ (S 2 (a)).toNat) - (1)))), (0, .ref (jad G 6)), (1, .int (iI (b))), (2, .int (iI (a)))]) C dX3_sumsOfOthers_13 (by decide) rfl ?_
  refine J_iconst C dX3_sumsOfOthers_14 ?_
  refine J_istore (lv' := [(4, .int (iI (1))), (3, .int (iI (((2) * 2 ^ (S 2 (a)).toNat) - (1)))), (0, .ref (jad G 6)), (1, .int (iI (b))), (2, .int (iI (a)))]) C dX3_sumsOfOthers_15 (by decide) rfl ?_
  refine J_iconst C dX3_sumsOfOthers_17 ?_
  refine J_istore (lv' := [(5, .int (iI (0))), (4, .int (iI (1))), (3, .int (iI (((2) * 2 ^ (S 2 (a)).toNat) - (1)))), (0, .ref (jad G 6)), (1, .int (iI (b))), (2, .int (iI (a)))]) C dX3_sumsOfOthers_18 (by decide) rfl ?_
  refine J_lv [3, 4, 5, 2, 1, 0] rfl ?_
  exact l_sums hG C S b a hk hb ha R _ 1 0 rfl ⟨by omega, soI.ini hk ha⟩
theorem c_cocnt {G : jG} (hG : cG G) (S : jMem) (b a : Int) (hk : cOK S) (hs : cS S) (hb : 0 ≤ b ∧ b < S 1 4) (ha : 0 ≤ a ∧ a < 3) : jM G yX3_coordinateCount cX3_coordinateCount 3 (some .int) 1 20 [.ref (jad G 6), .int (iI (b)), .int (iI (a))] S (jPi (fun v S' => pcnt (pC (S 1 4) (S 3) (S 4) b a) (S 2 a + 1) = v ∧ S = S')) := by
  refine jM.of (by decide) (Nat.le_of_ble_eq_true rfl) (fun E C R => ?_)
  show J E G 0 [(0, .ref (jad G 6)), (1, .int (iI (b))), (2, .int (iI (a)))] [] _
  have hn := hk.1
  have hco := hs.2 b a hb.1 hb.2 ha.1 ha.2
  have hcr := hco.1
  rw [show (2 : Int) ^ 21 = 2097152 from rfl] at hcr
  refine J_aload_n C 0 dX3_coordinateCount_0 rfl ?_
  refine g_X3_15 hG C dX3_coordinateCount_1 ?_
  refine J_iload_n C 1 dX3_coordinateCount_4 rfl ?_
  refine J_iconst C dX3_coordinateCount_5 ?_
  refine J_imul C dX3_coordinateCount_6 ?_
  refine J_iload_n C 2 dX3_coordinateCount_7 rfl ?_
  refine J_iadd C dX3_coordinateCount_8 ?_
  refine cald hG C 8 24 (by decide) dX3_coordinateCount_9 (by omega) (by omega) ?_
  refine J_callS (rest := []) C (c_bitc hG S (S 8 (((b) * (3)) + (a))) (by omega)) kc_J6_bitCount_0f7a4 kl_X3_90 dX3_coordinateCount_10 rfl rfl (by decide) (Nat.le_of_ble_eq_true rfl) (J_ki (fun v1 S1 h1 => ?_))
  obtain ⟨rfl, rfl⟩ := h1
  have q2 := zcnt_nn (S 8 (((b) * (3)) + (a)))
  exact J_iret R C dX3_coordinateCount_13 (jPi.mk ⟨by exact (hco.cnt hk ha).symm, rfl⟩)
theorem c_wco {G : jG} (hG : cG G) (S : jMem) (b t a : Int) (hk : cOK S) (hs : cS S) (hb : 0 ≤ b ∧ b < S 1 4) (ht : 0 ≤ t ∧ t < 6) (ha : 0 ≤ a ∧ a < 3) (hsh : pext (S 3) b t a ≤ S 2 a) : jM G yX3_wayCoordinates cX3_wayCoordinates 5 (some .int) 1 23 [.ref (jad G 6), .int (iI (b)), .int (iI (t)), .int (iI (a))] S (jPi (fun v S' => wcA (S 1 4) (S 2) (S 3) (S 4) b t a v ∧ S = S')) := by
  refine jM.of (by decide) (Nat.le_of_ble_eq_true rfl) (fun E C R => ?_)
  show J E G 0 [(0, .ref (jad G 6)), (1, .int (iI (b))), (2, .int (iI (t))), (3, .int (iI (a)))] [] _
  have hn := hk.1
  have hco := hs.2 b a hb.1 hb.2 ha.1 ha.2
  have hcr := hco.1
  rw [show (2 : Int) ^ 21 = 2097152 from rfl] at hcr
  have hL := hk.2.1 a ha.1 ha.2
  have hE := pext_in hk (b := b) (t := t) (a := a) (by omega) (by omega)
  have hms := mask_in (L := S 2 a - pext (S 3) b t a) (by omega) (by omega)
  refine J_aload_n C 0 dX3_wayCoordinates_0 rfl ?_
  refine g_X3_45 hG C dX3_wayCoordinates_1 ?_
  refine g_X3_76 hG C dX3_wayCoordinates_4 ?_
  refine J_iload_n C 3 dX3_wayCoordinates_7 rfl ?_
  refine cald hG C 2 3 (by decide) dX3_wayCoordinates_8 (by omega) (by omega) ?_
  refine J_aload_n C 0 dX3_wayCoordinates_9 rfl ?_
  refine g_X3_45 hG C dX3_wayCoordinates_10 ?_
  refine J_iload_n C 1 dX3_wayCoordinates_13 rfl ?_
  refine J_iload_n C 2 dX3_wayCoordinates_14 rfl ?_
  refine J_iload_n C 3 dX3_wayCoordinates_15 rfl ?_
  refine J_callV (k := 1) (rest := [.int (iI (S 2 (a)))]) C (c_extent hG S (b) (t) (a) (by omega) (by omega) (by omega)) kc_X4_extent kl_X3_87 (by rw [hG.2]; decide) (by rw [hG.1]; rfl) rfl dX3_wayCoordinates_16 rfl rfl (by decide) (Nat.le_of_ble_eq_true rfl) (J_ki (fun v1 S1 h1 => ?_))
  obtain ⟨rfl, rfl⟩ := h1
  have q3 := pext_in hk (b := b) (t := t) (a := a) (by omega) (by omega)
  refine J_isub C dX3_wayCoordinates_19 ?_
  refine J_istore (lv' := [(4, .int (iI ((S 2 (a)) - (pext (S 3) (b) (t) (a))))), (0, .ref (jad G 6)), (1, .int (iI (b))), (2, .int (iI (t))), (3, .int (iI (a)))]) C dX3_wayCoordinates_20 (by decide) rfl ?_
  refine J_aload_n C 1 dX3_wayCoordinates_22 rfl ?_
  refine g_X3_15 hG C dX3_wayCoordinates_23 ?_
  refine J_iload_n C 2 dX3_wayCoordinates_26 rfl ?_
  refine J_iconst C dX3_wayCoordinates_27 ?_
  refine J_imul C dX3_wayCoordinates_28 ?_
  refine J_iload_n C 4 dX3_wayCoordinates_29 rfl ?_
  refine J_iadd C dX3_wayCoordinates_30 ?_
  refine cald hG C 8 24 (by decide) dX3_wayCoordinates_31 (by omega) (by omega) ?_
  refine J_iconst C dX3_wayCoordinates_32 ?_
  refine J_iload C 0 dX3_wayCoordinates_33 rfl ?_
  refine J_ishl C dX3_wayCoordinates_35 (by omega) (by omega) ?_
  refine J_iconst C dX3_wayCoordinates_36 ?_
  refine J_isub C dX3_wayCoordinates_37 ?_
  refine J_iand C (zand (S 8 (((b) * (3)) + (a))) (((2) * 2 ^ ((S 2 (a)) - (pext (S 3) (b) (t) (a))).toNat) - (1))) dX3_wayCoordinates_38 (iI_zand (by omega) (by omega) (by omega) (by omega)) ?_
  exact J_iret R C dX3_wayCoordinates_39 (jPi.mk ⟨hco.way hk (by omega) ha hsh, rfl⟩)
theorem l_wcnt {E : jEnv} {G : jG} (hG : cG G) (C : jX E G cX3_wayCount 4 RX3 3 69) (S : jMem) (b : Int) (hk : cOK S) (hs : cS S) (hb : 0 ≤ b ∧ b < S 1 4) (R : jR E G (some .int) (jPi (fun v S' => wsum (S 1 4) (S 2) (S 3) (S 4) b 6 = v ∧ S = S'))) : ∀ (mm : Nat) (t : Int), mm = (6 - t).toNat → (0 ≤ t ∧ t ≤ 6) → J E G 4 [(0, .ref (jad G 6)), (1, .int (iI (b))), (2, .int (iI (wsum (S 1 4) (S 2) (S 3) (S 4) b t))), (3, .int (iI (t)))] [] S := by
  intro mm
  induction mm using Nat.strongRecOn with | ind mm ih => ?_
  intro t hm ht
  have hn := hk.1
  refine J_iload_n C 3 dX3_wayCount_4 rfl ?_
  refine J_bipush C dX3_wayCount_5 (by decide) ?_
  refine J_icmp_ge C 63 dX3_wayCount_7 (by decide) (by omega) (by omega) (fun h1 => ?_) (fun h1 => ?_)
  · refine J_iload_n C 2 dX3_wayCount_63 rfl ?_
    exact J_iret R C dX3_wayCount_64 (jPi.mk ⟨by rw [show t = 6 by omega], rfl⟩)
  · refine J_aload_n C 0 dX3_wayCount_10 rfl ?_
    refine g_X3_45 hG C dX3_wayCount_11 ?_
    refine J_iload_n C 1 dX3_wayCount_14 rfl ?_
    refine J_iload_n C 3 dX3_wayCount_15 rfl ?_
    refine J_callV (k := 1) (rest := []) C (c_counts hG S (b) (t) hk (by omega) (by omega)) kc_X4_counts kl_X3_95 (by rw [hG.2]; decide) (by rw [hG.1]; rfl) rfl dX3_wayCount_16 rfl rfl (by decide) (Nat.le_of_ble_eq_true rfl) (J_ki (fun v2 S2 h2 => ?_))
    obtain ⟨rfl, rfl⟩ := h2
    refine J_if_eq_b C 57 dX3_wayCount_19 (by decide) (fun h3 => ?_) (fun h3 => ?_)
    · refine J_iinc (lv' := [(3, .int (iI (t + 1))), (0, .ref (jad G 6)), (1, .int (iI (b))), (2, .int (iI (wsum (S 1 4) (S 2) (S 3) (S 4) b t)))]) C 3 dX3_wayCount_57 rfl (by decide) rfl ?_
      refine J_goto C 4 dX3_wayCount_60 (by decide) ?_
      have e := wsum_s (S 1 4) (S 2) (S 3) (S 4) b ht.1
      have hpc := pways_c hk (b := b) (t := t) (by omega)
      rw [hpc.2 (by assumption)] at e
      refine J_lv [1, 2, 3, 0] rfl ?_
      rw [show wsum (S 1 4) (S 2) (S 3) (S 4) b t = wsum (S 1 4) (S 2) (S 3) (S 4) b (t + 1) by omega]
      exact ih _ (by omega) (t + 1) rfl (by omega)
    · have hsh : pshort (S 2) (S 3) b t := (show pcounts (S 2) (S 3) (S 4) b t by assumption).2.1
      refine J_iload_n C 2 dX3_wayCount_22 rfl ?_
      refine J_aload_n C 0 dX3_wayCount_23 rfl ?_
      refine J_iload_n C 1 dX3_wayCount_24 rfl ?_
      refine J_iload_n C 3 dX3_wayCount_25 rfl ?_
      refine J_iconst C dX3_wayCount_26 ?_
      refine J_callV (k := 6) (rest := [.int (iI (wsum (S 1 4) (S 2) (S 3) (S 4) b t))]) C (c_wco hG S (b) (t) (0) hk hs (by omega) (by omega) (by omega) hsh.1) kc_X3_wayCoordinates kl_X3_98 (by rw [hG.2]; decide) (by rw [hG.1]; rfl) rfl dX3_wayCount_27 rfl rfl (by decide) (Nat.le_of_ble_eq_true rfl) (J_ki (fun v4 S4 h4 => ?_))
      obtain ⟨hw0, hSe⟩ := h4
      subst hSe
      have hwr0 := hw0.1
      rw [show (2 : Int) ^ 21 = 2097152 from rfl] at hwr0
      have hwc0 := hw0.cnt hk (by omega) (by omega) hsh.1
      refine J_callS (rest := [.int (iI (wsum (S 1 4) (S 2) (S 3) (S 4) b t))]) C (c_bitc hG S (v4) (by omega)) kc_J6_bitCount_0f7a4 kl_X3_90 dX3_wayCount_30 rfl rfl (by decide) (Nat.le_of_ble_eq_true rfl) (J_ki (fun v5 S5 h5 => ?_))
      obtain ⟨rfl, rfl⟩ := h5
      have q4 := zcnt_nn (v4)
      refine J_aload_n C 0 dX3_wayCount_33 rfl ?_
      refine J_iload_n C 1 dX3_wayCount_34 rfl ?_
      refine J_iload_n C 3 dX3_wayCount_35 rfl ?_
      refine J_iconst C dX3_wayCount_36 ?_
      refine J_callV (k := 6) (rest := [.int (iI (zcnt (v4))), .int (iI (wsum (S 1 4) (S 2) (S 3) (S 4) b t))]) C (c_wco hG S (b) (t) (1) hk hs (by omega) (by omega) (by omega) hsh.2.1) kc_X3_wayCoordinates kl_X3_98 (by rw [hG.2]; decide) (by rw [hG.1]; rfl) rfl dX3_wayCount_37 rfl rfl (by decide) (Nat.le_of_ble_eq_true rfl) (J_ki (fun v6 S6 h6 => ?_))
      obtain ⟨hw1, hSe⟩ := h6
      subst hSe
      have hwr1 := hw1.1
      rw [show (2 : Int) ^ 21 = 2097152 from rfl] at hwr1
      have hwc1 := hw1.cnt hk (by omega) (by omega) hsh.2.1
      refine J_callS (rest := [.int (iI (zcnt (v4))), .int (iI (wsum (S 1 4) (S 2) (S 3) (S 4) b t))]) C (c_bitc hG S (v6) (by omega)) kc_J6_bitCount_0f7a4 kl_X3_90 dX3_wayCount_40 rfl rfl (by decide) (Nat.le_of_ble_eq_true rfl) (J_ki (fun v7 S7 h7 => ?_))
      obtain ⟨rfl, rfl⟩ := h7
      have q5 := zcnt_nn (v6)
      refine J_imul C dX3_wayCount_43 ?_
      refine J_aload_n C 0 dX3_wayCount_44 rfl ?_
      refine J_iload_n C 1 dX3_wayCount_45 rfl ?_
      refine J_iload_n C 3 dX3_wayCount_46 rfl ?_
      refine J_iconst C dX3_wayCount_47 ?_
      refine J_callV (k := 6) (rest := [.int (iI ((zcnt (v4)) * (zcnt (v6)))), .int (iI (wsum (S 1 4) (S 2) (S 3) (S 4) b t))]) C (c_wco hG S (b) (t) (2) hk hs (by omega) (by omega) (by omega) hsh.2.2) kc_X3_wayCoordinates kl_X3_98 (by rw [hG.2]; decide) (by rw [hG.1]; rfl) rfl dX3_wayCount_48 rfl rfl (by decide) (Nat.le_of_ble_eq_true rfl) (J_ki (fun v8 S8 h8 => ?_))
      obtain ⟨hw2, hSe⟩ := h8
      subst hSe
      have hwr2 := hw2.1
      rw [show (2 : Int) ^ 21 = 2097152 from rfl] at hwr2
      have hwc2 := hw2.cnt hk (by omega) (by omega) hsh.2.2
      refine J_callS (rest := [.int (iI ((zcnt (v4)) * (zcnt (v6)))), .int (iI (wsum (S 1 4) (S 2) (S 3) (S 4) b t))]) C (c_bitc hG S (v8) (by omega)) kc_J6_bitCount_0f7a4 kl_X3_90 dX3_wayCount_51 rfl rfl (by decide) (Nat.le_of_ble_eq_true rfl) (J_ki (fun v9 S9 h9 => ?_))
      obtain ⟨rfl, rfl⟩ := h9
      have q6 := zcnt_nn (v8)
      refine J_imul C dX3_wayCount_54 ?_
      refine J_iadd C dX3_wayCount_55 ?_
      refine J_istore_n (lv' := [(2, .int (iI ((wsum (S 1 4) (S 2) (S 3) (S 4) b t) + (((zcnt (v4)) * (zcnt (v6))) * (zcnt (v8)))))), (0, .ref (jad G 6)), (1, .int (iI (b))), (3, .int (iI (t)))]) C dX3_wayCount_56 (by decide) rfl ?_
      refine J_iinc (lv' := [(3, .int (iI (t + 1))), (2, .int (iI ((wsum (S 1 4) (S 2) (S 3) (S 4) b t) + (((zcnt (v4)) * (zcnt (v6))) * (zcnt (v8)))))), (0, .ref (jad G 6)), (1, .int (iI (b)))]) C 3 dX3_wayCount_57 rfl (by decide) rfl ?_
      refine J_goto C 4 dX3_wayCount_60 (by decide) ?_
      have e := wsum_s (S 1 4) (S 2) (S 3) (S 4) b ht.1
      have hpc := pways_c hk (b := b) (t := t) (by omega)
      rw [hpc.1 (by assumption), ← hwc0, ← hwc1, ← hwc2] at e
      refine J_lv [2, 3, 1, 0] rfl ?_
      rw [show (wsum (S 1 4) (S 2) (S 3) (S 4) b t) + (((zcnt (v4)) * (zcnt (v6))) * (zcnt (v8))) = wsum (S 1 4) (S 2) (S 3) (S 4) b (t + 1) by omega]
      exact ih _ (by omega) (t + 1) rfl (by omega)
theorem c_wcnt {G : jG} (hG : cG G) (S : jMem) (b : Int) (hk : cOK S) (hs : cS S) (hb : 0 ≤ b ∧ b < S 1 4) : jM G yX3_wayCount cX3_wayCount 4 (some .int) 3 69 [.ref (jad G 6), .int (iI (b))] S (jPi (fun v S' => wsum (S 1 4) (S 2) (S 3) (S 4) b 6 = v ∧ S = S')) := by
  refine jM.of (by decide) (Nat.le_of_ble_eq_true rfl) (fun E C R => ?_)
  show J E G 0 [(0, .ref (jad G 6)), (1, .int (iI (b)))] [] _
  refine J_iconst C dX3_wayCount_0 ?_
  refine J_istore_n (lv' := [(2, .int (iI (0))), (0, .ref (jad G 6)), (1, .int (iI (b)))]) C dX3_wayCount_1 (by decide) rfl ?_
  refine J_iconst C dX3_wayCount_2 ?_
  refine J_istore_n (lv' := [(3, .int (iI (0))), (2, .int (iI (0))), (0, .ref (jad G 6)), (1, .int (iI (b)))]) C dX3_wayCount_3 (by decide) rfl ?_
  refine J_lv [2, 3, 1, 0] rfl ?_
  exact l_wcnt hG C S b hk hs hb R _ 0 rfl (by omega)
theorem c_enter {G : jG} (hG : cG G) (S : jMem) (d : Int) (hd : 0 ≤ d ∧ d < 8) : jM G yX3_enter cX3_enter 2 none 0 0 [.ref (jad G 6), .int (iI (d))] S (jPv (fun S' => S' = enM S d)) := by
  refine jM.of (by decide) (Nat.le_of_ble_eq_true rfl) (fun E C R => ?_)
  show J E G 0 [(0, .ref (jad G 6)), (1, .int (iI (d)))] [] _
  refine J_aload_n C 0 dX3_enter_0 rfl ?_
  refine J_iload_n C 1 dX3_enter_1 rfl ?_
  refine p_X3_105 hG C dX3_enter_2 ?_
  refine J_aload_n C 0 dX3_enter_5 rfl ?_
  refine g_X3_18 hG C dX3_enter_6 ?_
  refine J_aload_n C 0 dX3_enter_9 rfl ?_
  refine g_X3_105 hG C dX3_enter_10 ?_
  refine J_top (b := d) (rd_e (by omega)) ?_
  refine J_iconst C dX3_enter_13 ?_
  refine cast hG C 9 8 (by decide) dX3_enter_14 (by omega) (by omega) ?_
  refine J_aload_n C 0 dX3_enter_15 rfl ?_
  refine g_X3_33 hG C dX3_enter_16 ?_
  refine J_aload_n C 0 dX3_enter_19 rfl ?_
  refine g_X3_105 hG C dX3_enter_20 ?_
  refine J_top (b := d) (rd_k (by decide) (rd_e (by omega))) ?_
  refine J_iconst C dX3_enter_23 ?_
  refine cast hG C 14 8 (by decide) dX3_enter_24 (by omega) (by omega) ?_
  refine J_aload_n C 0 dX3_enter_25 rfl ?_
  refine g_X3_36 hG C dX3_enter_26 ?_
  refine J_aload_n C 0 dX3_enter_29 rfl ?_
  refine g_X3_105 hG C dX3_enter_30 ?_
  refine J_top (b := d) (rd_k (by decide) (rd_k (by decide) (rd_e (by omega)))) ?_
  refine J_iconst C dX3_enter_33 ?_
  refine cast hG C 15 8 (by decide) dX3_enter_34 (by omega) (by omega) ?_
  refine J_aload_n C 0 dX3_enter_35 rfl ?_
  refine g_X3_39 hG C dX3_enter_36 ?_
  refine J_aload_n C 0 dX3_enter_39 rfl ?_
  refine g_X3_105 hG C dX3_enter_40 ?_
  refine J_top (b := d) (rd_k (by decide) (rd_k (by decide) (rd_k (by decide) (rd_e (by omega))))) ?_
  refine J_iconst C dX3_enter_43 ?_
  refine cast hG C 16 8 (by decide) dX3_enter_44 (by omega) (by omega) ?_
  refine J_aload_n C 0 dX3_enter_45 rfl ?_
  refine g_X3_42 hG C dX3_enter_46 ?_
  refine J_aload_n C 0 dX3_enter_49 rfl ?_
  refine g_X3_105 hG C dX3_enter_50 ?_
  refine J_top (b := d) (rd_k (by decide) (rd_k (by decide) (rd_k (by decide) (rd_k (by decide) (rd_e (by omega)))))) ?_
  refine J_iconst C dX3_enter_53 ?_
  refine cast hG C 17 8 (by decide) dX3_enter_54 (by omega) (by omega) ?_
  exact J_vret R C dX3_enter_55 (jPv.mk (by rfl))
theorem l_re1 {E : jEnv} {G : jG} (hG : cG G) (C : jX E G cX3_restart 3 RX3 3 73) (S1 : jMem) (b : Int) (hk1 : cOK S1) (hb : 0 ≤ b ∧ b < S1 1 4) : ∀ (mm : Nat) (a : Int) (S : jMem), mm = (3 - a).toNat → ((0 ≤ a ∧ a ≤ 3) ∧ reI S1 b a S) → (∀ S', reI S1 b 3 S' → J E G 46 [(0, .ref (jad G 6)), (1, .int (iI b))] [] S') → J E G 19 [(0, .ref (jad G 6)), (1, .int (iI (b))), (2, .int (iI (a)))] [] S := by
  intro mm
  induction mm using Nat.strongRecOn with | ind mm ih => ?_
  intro a S hm hi K
  obtain ⟨ha, hj⟩ := hi
  have hn := hk1.1
  have e1 : S 1 4 = S1 1 4 := by rw [hj.1 1 (by decide)]
  refine J_iload_n C 2 dX3_restart_19 rfl ?_
  refine J_iconst C dX3_restart_20 ?_
  refine J_icmp_ge C 46 dX3_restart_21 (by decide) (by omega) (by omega) (fun h1 => ?_) (fun h1 => ?_)
  · have ea : a = 3 := by omega
    rw [ea] at hj
    refine J_lv [0, 1] rfl ?_
    exact K S hj
  · refine J_aload_n C 0 dX3_restart_24 rfl ?_
    refine g_X3_15 hG C dX3_restart_25 ?_
    refine J_iload_n C 1 dX3_restart_28 rfl ?_
    refine J_iconst C dX3_restart_29 ?_
    refine J_imul C dX3_restart_30 ?_
    refine J_iload_n C 2 dX3_restart_31 rfl ?_
    refine J_iadd C dX3_restart_32 ?_
    refine J_aload_n C 0 dX3_restart_33 rfl ?_
    refine J_iload_n C 1 dX3_restart_34 rfl ?_
    refine J_iload_n C 2 dX3_restart_35 rfl ?_
    refine J_callV (k := 6) (rest := [.int (iI (((b) * (3)) + (a))), .ref (jad G 8)]) C (c_sums hG S (b) (a) (hj.1.ok (by decide) hk1) (by omega) (by omega)) kc_X3_sumsOfOthers kl_X3_58 (by rw [hG.2]; decide) (by rw [hG.1]; rfl) rfl dX3_restart_36 rfl rfl (by decide) (Nat.le_of_ble_eq_true rfl) (J_ki (fun v2 S2 h2 => ?_))
    obtain ⟨hco, hSe⟩ := h2
    subst hSe
    rw [hj.1 1 (by decide), hj.1 2 (by decide), hj.1 3 (by decide), hj.1 4 (by decide)] at hco
    refine cast hG C 8 24 (by decide) dX3_restart_39 (by omega) (by omega) ?_
    refine J_iinc (lv' := [(2, .int (iI (a + 1))), (0, .ref (jad G 6)), (1, .int (iI (b)))]) C 2 dX3_restart_40 rfl (by decide) rfl ?_
    refine J_goto C 19 dX3_restart_43 (by decide) ?_
    refine J_lv [1, 2, 0] rfl ?_
    exact ih _ (by omega) (a + 1) _ rfl ⟨by omega, hj.put hb.1 (by omega) hco⟩ K
theorem cRe.mk {S0 S1 S2 : jMem} {o : Int} (hk : cOK S0) (h1 : or2 S0 (S0 1 4) S1) (h2 : reI S1 (S1 1 4) 0 S2) (ho : o = bb (S0 1 4 = 0)) : cRe S0 (enM (up2 (up2 S2 6 14 0) 6 15 o) 0) := by
  obtain ⟨k1, k2⟩ := h1
  obtain ⟨k3, k4⟩ := h2
  have w1 : keeps [6, 7, 8, 9, 14, 15, 16, 17] S0 S1 := k1.keeps.wide (by decide)
  have w2 : keeps [6, 7, 8, 9, 14, 15, 16, 17] S1 S2 := k3.wide (by decide)
  have e : ∀ q : Nat, q ∉ [6, 9, 14, 15, 16, 17] → enM (up2 (up2 S2 6 14 0) 6 15 o) 0 q = S2 q := fun q hq => by
    simp only [List.mem_cons, List.not_mem_nil, or_false, not_or] at hq
    obtain ⟨q1, q2, q3, q4, q5, q6⟩ := hq
    unfold enM
    rw [up2_k _ _ _ q6, up2_k _ _ _ q5, up2_k _ _ _ q4, up2_k _ _ _ q3, up2_k _ _ _ q2, up2_k _ _ _ q1, up2_k _ _ _ q1, up2_k _ _ _ q1]
  refine ⟨?_, ⟨?_, ?_⟩, ⟨?_, ?_, ?_⟩, ?_, ?_, ?_, ?_, ?_⟩
  · exact (((((((((w1.tr w2).up (by decide) _ _).up (by decide) _ _).up (by decide) _ _).up (by decide) _ _).up (by decide) _ _).up (by decide) _ _).up (by decide) _ _).up (by decide) _ _)
  · rw [e 3 (by decide), e 1 (by decide), e 7 (by decide), k3 3 (by decide), k3 1 (by decide), k3 7 (by decide), k1 3 (by decide), k1 1 (by decide)]
    exact k2
  · rw [e 1 (by decide), e 2 (by decide), e 3 (by decide), e 4 (by decide), e 8 (by decide), k3 1 (by decide), k3 2 (by decide), k3 3 (by decide), k3 4 (by decide)]
    exact fun b a b1 b2 a1 a2 => k4 b a b1 a1 a2 (by omega)
  · unfold enM; rw [up2_k _ _ _ (by decide), up2_k _ _ _ (by decide), up2_k _ _ _ (by decide), up2_k _ _ _ (by decide), up2_k _ _ _ (by decide), up2_eq]
  · unfold enM; rw [up2_k _ _ _ (by decide), up2_k _ _ _ (by decide), up2_k _ _ _ (by decide), up2_k _ _ _ (by decide), up2_k _ _ _ (by decide), up2_a _ _ _ (by decide), up2_a _ _ _ (by decide), up2_eq]
  · unfold enM; rw [up2_k _ _ _ (by decide), up2_k _ _ _ (by decide), up2_k _ _ _ (by decide), up2_k _ _ _ (by decide), up2_k _ _ _ (by decide), up2_a _ _ _ (by decide), up2_eq]; exact ho
  · unfold enM; rw [up2_k _ _ _ (by decide), up2_k _ _ _ (by decide), up2_k _ _ _ (by decide), up2_k _ _ _ (by decide), up2_eq]
  · unfold enM; rw [up2_k _ _ _ (by decide), up2_k _ _ _ (by decide), up2_k _ _ _ (by decide), up2_eq]
  · unfold enM; rw [up2_k _ _ _ (by decide), up2_k _ _ _ (by decide), up2_eq]
  · unfold enM; rw [up2_k _ _ _ (by decide), up2_eq]
  · unfold enM; rw [up2_eq]
theorem l_re0 {E : jEnv} {G : jG} (hG : cG G) (C : jX E G cX3_restart 3 RX3 3 73) (S0 S1 : jMem) (hk : cOK S0) (hor : or2 S0 (S0 1 4) S1) (R : jR E G none (jPv (fun S' => cRe S0 S'))) : ∀ (mm : Nat) (b : Int) (S : jMem), mm = (S1 1 4 - b).toNat → ((0 ≤ b ∧ b ≤ S1 1 4) ∧ reI S1 b 0 S) → J E G 6 [(0, .ref (jad G 6)), (1, .int (iI (b)))] [] S := by
  intro mm
  induction mm using Nat.strongRecOn with | ind mm ih => ?_
  intro b S hm hi
  obtain ⟨hb, hj⟩ := hi
  have hk1 : cOK S1 := hor.1.ok (by decide) hk
  have hn := hk1.1
  have e1 : S 1 4 = S1 1 4 := by rw [hj.1 1 (by decide)]
  have e0 : S1 1 4 = S0 1 4 := by rw [hor.1 1 (by decide)]
  refine J_iload_n C 1 dX3_restart_6 rfl ?_
  refine J_aload_n C 0 dX3_restart_7 rfl ?_
  refine g_X3_45 hG C dX3_restart_8 ?_
  refine g_X3_52 hG C dX3_restart_11 ?_
  refine J_icmp_ge C 52 dX3_restart_14 (by decide) (by omega) (by omega) (fun h1 => ?_) (fun h1 => ?_)
  · refine J_aload_n C 0 dX3_restart_52 rfl ?_
    refine J_iconst C dX3_restart_53 ?_
    refine p_X3_62 hG C dX3_restart_54 ?_
    refine J_aload_n C 0 dX3_restart_57 rfl ?_
    refine J_aload_n C 0 dX3_restart_58 rfl ?_
    refine g_X3_45 hG C dX3_restart_59 ?_
    refine g_X3_52 hG C dX3_restart_62 ?_
    refine J_top (b := S 1 4) (rd_k (by decide) (rfl)) ?_
    refine J_if_ne C 72 dX3_restart_65 (by decide) (by omega) (fun h2 => ?_) (fun h2 => ?_)
    · refine J_iconst C dX3_restart_72 ?_
      refine p_X3_65 hG C dX3_restart_73 ?_
      refine J_aload_n C 0 dX3_restart_76 rfl ?_
      refine J_iconst C dX3_restart_77 ?_
      refine J_callV (k := 6) (rest := []) C (c_enter hG (up2 (up2 S 6 (14) (0)) 6 (15) (0)) (0) (by omega)) kc_X3_enter kl_X3_68 (by rw [hG.2]; decide) (by rw [hG.1]; rfl) rfl dX3_restart_78 rfl rfl (by decide) (Nat.le_of_ble_eq_true rfl) (J_kv (fun S3 h3 => ?_))
      subst h3
      have ek : b = S1 1 4 := by omega
      rw [ek] at hj
      exact J_vret R C dX3_restart_81 (jPv.mk (cRe.mk hk hor hj (by first | exact (bb_t (by omega)).symm | exact (bb_f (by omega)).symm)))
    · refine J_iconst C dX3_restart_68 ?_
      refine J_goto C 73 dX3_restart_69 (by decide) ?_
      refine p_X3_65 hG C dX3_restart_73 ?_
      refine J_aload_n C 0 dX3_restart_76 rfl ?_
      refine J_iconst C dX3_restart_77 ?_
      refine J_callV (k := 6) (rest := []) C (c_enter hG (up2 (up2 S 6 (14) (0)) 6 (15) (1)) (0) (by omega)) kc_X3_enter kl_X3_68 (by rw [hG.2]; decide) (by rw [hG.1]; rfl) rfl dX3_restart_78 rfl rfl (by decide) (Nat.le_of_ble_eq_true rfl) (J_kv (fun S4 h4 => ?_))
      subst h4
      have ek : b = S1 1 4 := by omega
      rw [ek] at hj
      exact J_vret R C dX3_restart_81 (jPv.mk (cRe.mk hk hor hj (by first | exact (bb_t (by omega)).symm | exact (bb_f (by omega)).symm)))
  · refine J_iconst C dX3_restart_17 ?_
    refine J_istore_n (lv' := [(2, .int (iI (0))), (0, .ref (jad G 6)), (1, .int (iI (b)))]) C dX3_restart_18 (by decide) rfl ?_
    refine J_lv [1, 2, 0] rfl ?_
    refine l_re1 hG C S1 b hk1 (by omega) _ 0 S rfl ⟨by omega, hj⟩ (fun S2 hj2 => ?_)
    refine J_iinc (lv' := [(1, .int (iI (b + 1))), (0, .ref (jad G 6))]) C 1 dX3_restart_46 rfl (by decide) rfl ?_
    refine J_goto C 6 dX3_restart_49 (by decide) ?_
    refine J_lv [1, 0] rfl ?_
    exact ih _ (by omega) (b + 1) S2 rfl ⟨by omega, hj2.1, fun c x c1 x1 x2 hc => hj2.2 c x c1 x1 x2 (by omega)⟩
theorem c_restart {G : jG} (hG : cG G) (S0 : jMem) (hk : cOK S0) : jM G yX3_restart cX3_restart 3 none 3 73 [.ref (jad G 6)] S0 (jPv (fun S' => cRe S0 S')) := by
  refine jM.of (by decide) (Nat.le_of_ble_eq_true rfl) (fun E C R => ?_)
  show J E G 0 [(0, .ref (jad G 6))] [] _
  have hn := hk.1
  refine J_aload_n C 0 dX3_restart_0 rfl ?_
  refine J_callV (k := 6) (rest := []) C (c_order hG S0 hk) kc_X3_orderBoxes kl_X3_49 (by rw [hG.2]; decide) (by rw [hG.1]; rfl) rfl dX3_restart_1 rfl rfl (by decide) (Nat.le_of_ble_eq_true rfl) (J_kv (fun S1 h1 => ?_))
  have hor := h1
  refine J_iconst C dX3_restart_4 ?_
  refine J_istore_n (lv' := [(1, .int (iI (0))), (0, .ref (jad G 6))]) C dX3_restart_5 (by decide) rfl ?_
  have hk1 : cOK S1 := hor.1.ok (by decide) hk
  have hn1 := hk1.1
  refine J_lv [1, 0] rfl ?_
  exact l_re0 hG C S0 S1 hk hor R _ 0 _ rfl ⟨by omega, keeps.rf, fun c x c1 x1 x2 hc => by omega⟩
