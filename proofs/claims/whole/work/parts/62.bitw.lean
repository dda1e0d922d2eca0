section JW
variable {E : jEnv} {G : jG} {cc : ByteArray} {nL : Nat} {own : String} {fr lo : Nat} {pc : Nat} {lv : List (Nat × Value)} {st : List Value} {S : jMem}
theorem J_ldcw (C : jX E G cc nL own fr lo) {n : Int} {i : Nat} (hw : Cond.constant own i (iI n) ∈ lw_good) (hd : decode cc pc = .ok (.ldc_w i, 3)) (k : J E G (pc + 3) lv (.int (iI n) :: st) S) : J E G pc lv st S := fun H locs ls hl hP hS => lv_ldcw C.1 C.2.1 C.2.2.2.1 (C.2.2.2.2.1 _ hw) hd (k H locs ls hl hP hS)
theorem J_loc {i : Nat} {a b : Int} (h : a = b) (k : J E G pc ((i, .int (iI b)) :: lv) st S) : J E G pc ((i, .int (iI a)) :: lv) st S := h ▸ k
end JW
/-- the lowest bit alone -/
def zlow (x : Int) : Int := if x = 0 then 0 else zandn x (x - 1)
theorem iI_zlow {x : Int} (h0 : 0 ≤ x) (h1 : x ≤ 2147483647) : iI x &&& iI (-x) = iI (zlow x) := by
  unfold zlow
  by_cases h : x = 0
  · subst h; rw [if_pos rfl]; decide
  · rw [if_neg h, show (-x : Int) = -(x - 1) - 1 by omega, iI_zandn h0 h1 (by omega) (by omega)]
theorem zlow_0 : zlow 0 = 0 := if_pos rfl
theorem zlow_p {x l : Int} (hx : 0 < x) (h : isLow x l) : zlow x = 1 * 2 ^ l.toNat := by
  unfold zlow; rw [if_neg (by omega), low_on hx h]
theorem isLow.lt {x l : Int} {k : Nat} (h : isLow x l) (hx : 0 ≤ x) (hk : x < 2 ^ k) : l < k := by
  rcases Int.lt_or_le l k with c | c
  · exact c
  · exact absurd h.2.1 (zbit_high hx hk c)
theorem c_bitc {G : jG} (hG : cG G) (S : jMem) (x : Int) (hx : 0 ≤ x ∧ x < 16777216) : jM G yJ6_bitCount_0f7a4 cJ6_bitCount_0f7a4 1 (some .int) 0 0 [.int (iI (x))] S (jPi (fun v S' => zcnt x = v ∧ S = S')) := by
  refine jM.ofF (by decide +kernel) (Nat.le_of_ble_eq_true rfl) (fun E C R => ?_)
  show J E G 0 [(0, .int (iI (x)))] [] _
  obtain ⟨a1, q1⟩ : ∃ a1, a1 = x - zand (x / 2 ^ (1 : Int).toNat) 1431655765 := ⟨_, rfl⟩
  obtain ⟨a2, q2⟩ : ∃ a2, a2 = zand a1 858993459 + zand (a1 / 2 ^ (2 : Int).toNat) 858993459 := ⟨_, rfl⟩
  obtain ⟨a3, q3⟩ : ∃ a3, a3 = zand (a2 + a2 / 2 ^ (4 : Int).toNat) 252645135 := ⟨_, rfl⟩
  obtain ⟨a4, q4⟩ : ∃ a4, a4 = a3 + a3 / 2 ^ (8 : Int).toNat := ⟨_, rfl⟩
  obtain ⟨a5, q5⟩ : ∃ a5, a5 = a4 + a4 / 2 ^ (16 : Int).toNat := ⟨_, rfl⟩
  obtain ⟨b1, b2, b3, b4, b5, b6⟩ := bitc hx q1 q2 q3 q4 q5
  have c1 := zdiv_in hx.1 (1 : Int).toNat
  have c2 := zdiv_in b1.1 (2 : Int).toNat
  have c3 := zdiv_in b2.1 (4 : Int).toNat
  refine J_iload_n C 0 dJ6_bitCount_0f7a4_0 rfl ?_
  refine J_iload_n C 0 dJ6_bitCount_0f7a4_1 rfl ?_
  refine J_iconst C dJ6_bitCount_0f7a4_2 ?_
  refine J_iushr C (iI ((x) / 2 ^ (1 : Int).toNat)) dJ6_bitCount_0f7a4_3 (iI_ushr (by omega) (by omega) (by omega)) ?_
  refine J_ldcw (n := 1431655765) C kk_J6_265 dJ6_bitCount_0f7a4_4 ?_
  refine J_iand C (zand ((x) / 2 ^ (1 : Int).toNat) (1431655765)) dJ6_bitCount_0f7a4_7 (iI_zand (by omega) (by omega) (by omega) (by omega)) ?_
  refine J_isub C dJ6_bitCount_0f7a4_8 ?_
  refine J_istore_n (lv' := [(0, .int (iI ((x) - (zand ((x) / 2 ^ (1 : Int).toNat) (1431655765)))))]) C dJ6_bitCount_0f7a4_9 (by decide) rfl ?_
  refine J_loc (b := a1) q1.symm ?_
  refine J_iload_n C 0 dJ6_bitCount_0f7a4_10 rfl ?_
  refine J_ldcw (n := 858993459) C kk_J6_266 dJ6_bitCount_0f7a4_11 ?_
  refine J_iand C (zand (a1) (858993459)) dJ6_bitCount_0f7a4_14 (iI_zand (by omega) (by omega) (by omega) (by omega)) ?_
  refine J_iload_n C 0 dJ6_bitCount_0f7a4_15 rfl ?_
  refine J_iconst C dJ6_bitCount_0f7a4_16 ?_
  refine J_iushr C (iI ((a1) / 2 ^ (2 : Int).toNat)) dJ6_bitCount_0f7a4_17 (iI_ushr (by omega) (by omega) (by omega)) ?_
  refine J_ldcw (n := 858993459) C kk_J6_266 dJ6_bitCount_0f7a4_18 ?_
  refine J_iand C (zand ((a1) / 2 ^ (2 : Int).toNat) (858993459)) dJ6_bitCount_0f7a4_21 (iI_zand (by omega) (by omega) (by omega) (by omega)) ?_
  refine J_iadd C dJ6_bitCount_0f7a4_22 ?_
  refine J_istore_n (lv' := [(0, .int (iI ((zand (a1) (858993459)) + (zand ((a1) / 2 ^ (2 : Int).toNat) (858993459)))))]) C dJ6_bitCount_0f7a4_23 (by decide) rfl ?_
  refine J_loc (b := a2) q2.symm ?_
  refine J_iload_n C 0 dJ6_bitCount_0f7a4_24 rfl ?_
  refine J_iload_n C 0 dJ6_bitCount_0f7a4_25 rfl ?_
  refine J_iconst C dJ6_bitCount_0f7a4_26 ?_
  refine J_iushr C (iI ((a2) / 2 ^ (4 : Int).toNat)) dJ6_bitCount_0f7a4_27 (iI_ushr (by omega) (by omega) (by omega)) ?_
  refine J_iadd C dJ6_bitCount_0f7a4_28 ?_
  refine J_ldcw (n := 252645135) C kk_J6_267 dJ6_bitCount_0f7a4_29 ?_
  refine J_iand C (zand ((a2) + ((a2) / 2 ^ (4 : Int).toNat)) (252645135)) dJ6_bitCount_0f7a4_32 (iI_zand (by omega) (by omega) (by omega) (by omega)) ?_
  refine J_istore_n (lv' := [(0, .int (iI (zand ((a2) + ((a2) / 2 ^ (4 : Int).toNat)) (252645135))))]) C dJ6_bitCount_0f7a4_33 (by decide) rfl ?_
  refine J_loc (b := a3) q3.symm ?_
  refine J_iload_n C 0 dJ6_bitCount_0f7a4_34 rfl ?_
  refine J_iload_n C 0 dJ6_bitCount_0f7a4_35 rfl ?_
  refine J_bipush C dJ6_bitCount_0f7a4_36 (by decide) ?_
  refine J_iushr C (iI ((a3) / 2 ^ (8 : Int).toNat)) dJ6_bitCount_0f7a4_38 (iI_ushr (by omega) (by omega) (by omega)) ?_
  refine J_iadd C dJ6_bitCount_0f7a4_39 ?_
  refine J_istore_n (lv' := [(0, .int (iI ((a3) + ((a3) / 2 ^ (8 : Int).toNat))))]) C dJ6_bitCount_0f7a4_40 (by decide) rfl ?_
  refine J_loc (b := a4) q4.symm ?_
  refine J_iload_n C 0 dJ6_bitCount_0f7a4_41 rfl ?_
  refine J_iload_n C 0 dJ6_bitCount_0f7a4_42 rfl ?_
  refine J_bipush C dJ6_bitCount_0f7a4_43 (by decide) ?_
  refine J_iushr C (iI ((a4) / 2 ^ (16 : Int).toNat)) dJ6_bitCount_0f7a4_45 (iI_ushr (by omega) (by omega) (by omega)) ?_
  refine J_iadd C dJ6_bitCount_0f7a4_46 ?_
  refine J_istore_n (lv' := [(0, .int (iI ((a4) + ((a4) / 2 ^ (16 : Int).toNat))))]) C dJ6_bitCount_0f7a4_47 (by decide) rfl ?_
  refine J_loc (b := a5) q5.symm ?_
  refine J_iload_n C 0 dJ6_bitCount_0f7a4_48 rfl ?_
  refine J_bipush C dJ6_bitCount_0f7a4_49 (by decide) ?_
  refine J_iand C (zand (a5) (63)) dJ6_bitCount_0f7a4_51 (iI_zand (by omega) (by omega) (by omega) (by omega)) ?_
  exact J_iret R C dJ6_bitCount_0f7a4_52 (jPi.mk ⟨by exact b6, rfl⟩)
theorem c_lowest {G : jG} (hG : cG G) (S : jMem) (x l : Int) (hx : 0 < x ∧ x < 16777216) (hl : isLow x l) : jM G yX5_lowest cX5_lowest 1 (some .int) 1 20 [.int (iI (x))] S (jPi (fun v S' => l = v ∧ S = S')) := by
  refine jM.of (by decide) (Nat.le_of_ble_eq_true rfl) (fun E C R => ?_)
  show J E G 0 [(0, .int (iI (x)))] [] _
  have h24 := hl.lt (k := 24) (by omega) (by show x < 16777216; omega)
  have hp := zpow_lt (n := l) (k := 24) hl.1 h24
  have e := zlow_p hx.1 hl
  rw [show (2 : Int) ^ 24 = 16777216 from rfl] at hp
  refine J_iload_n C 0 dX5_lowest_0 rfl ?_
  refine J_iload_n C 0 dX5_lowest_1 rfl ?_
  refine J_ineg C dX5_lowest_2 ?_
  refine J_iand C (zlow (x)) dX5_lowest_3 (iI_zlow (by omega) (by omega)) ?_
  refine J_top (b := 1 * 2 ^ l.toNat) e ?_
  refine J_iconst C dX5_lowest_4 ?_
  refine J_isub C dX5_lowest_5 ?_
  refine J_callS (rest := []) C (c_bitc hG S ((1 * 2 ^ l.toNat) - (1)) (by omega)) kc_J6_bitCount_0f7a4 kl_X5_197 dX5_lowest_6 rfl rfl (by decide) (Nat.le_of_ble_eq_true rfl) (J_ki (fun v1 S1 h1 => ?_))
  obtain ⟨rfl, rfl⟩ := h1
  have q1 := zcnt_nn ((1 * 2 ^ l.toNat) - (1))
  exact J_iret R C dX5_lowest_9 (jPi.mk ⟨by exact (zcnt_below ⟨hl.1, h24⟩).symm, rfl⟩)
