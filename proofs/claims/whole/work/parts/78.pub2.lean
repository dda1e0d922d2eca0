/-! Euclid within sixty-four steps -/
def cdI (a b s g l : Int) : Prop := (0 ≤ g ∧ g ≤ 1000000) ∧ (0 ≤ l ∧ l ≤ 1000000) ∧ zgcd g l = zgcd a b ∧ (s = 0 ∨ (1 ≤ s ∧ l ≤ g ∧ g * l < 2 ^ (63 - s).toNat))
theorem cdI.step {a b s g l : Int} (h : cdI a b s g l) (hs : 0 ≤ s) (hl : l ≠ 0) : cdI a b (s + 1) l (g % l) := by
  obtain ⟨h1, h2, h3, h4⟩ := h
  have lp : 0 < l := by omega
  have r0 := Int.emod_nonneg g hl
  have r1 := Int.emod_lt_of_pos g lp
  refine ⟨h2, by omega, by rw [zgcd_step h1.1 lp]; exact h3, Or.inr ⟨by omega, by omega, ?_⟩⟩
  rcases h4 with e | ⟨s1, s2, s3⟩
  · subst e
    have := mul_in (x := l) (y := g % l) (A := 1000000) (B := 1000000) h2 (by omega)
    show l * (g % l) < (4611686018427387904 : Int)
    omega
  · have q := Int.emod_add_mul_ediv g l
    have q1 : 1 ≤ g / l := by
      apply Int.le_ediv_of_mul_le lp; omega
    have q2 : l * 1 ≤ l * (g / l) := Int.mul_le_mul_of_nonneg_left q1 (by omega)
    have q3 : 2 * (g % l) ≤ g := by omega
    have q4 : 2 * (g % l) * l ≤ g * l := Int.mul_le_mul_of_nonneg_right q3 (by omega)
    have q5 : 2 * (g % l) * l = 2 * (l * (g % l)) := by rw [Int.mul_assoc, Int.mul_comm (g % l) l]
    have q6 : 1 * 1 ≤ g * l := Int.mul_le_mul (by omega) (by omega) (by omega) (by omega)
    have hs63 : s < 63 := by
      rcases Int.lt_or_le s 63 with c | c
      · exact c
      · have e : (63 - s).toNat = 0 := by omega
        rw [e] at s3
        have : (2 : Int) ^ 0 = 1 := rfl
        omega
    have e : (63 - s).toNat = (63 - (s + 1)).toNat + 1 := by omega
    rw [e, Int.pow_succ] at s3
    omega
theorem cdI.end {a b s g l : Int} (h : cdI a b s g l) (he : 64 ≤ s ∨ l = 0) : zgcd a b = g := by
  obtain ⟨h1, h2, h3, h4⟩ := h
  have l0 : l = 0 := by
    rcases he with e | e
    · rcases h4 with q | ⟨q1, q2, q3⟩
      · omega
      · rw [show (63 - s).toNat = 0 by omega] at q3
        have p1 : (2 : Int) ^ 0 = 1 := rfl
        rcases Int.lt_or_le 0 l with c | c
        · have q6 : 1 * 1 ≤ g * l := Int.mul_le_mul (by omega) (by omega) (by omega) (by omega)
          omega
        · omega
    · exact e
  subst l0
  rw [← h3, zgcd_0 h1.1]
theorem pwsum_in {S : jMem} (hk : cOK S) : 0 ≤ pwsum (S 18 4) (S 5) ∧ pwsum (S 18 4) (S 5) ≤ 8000 := by
  have h1 := isum_in (f := fun b => bb (zbit (S 18 4) b) * S 5 b) (B := 1000) (8 - 0 : Int).toNat 0 (fun j j1 j2 => by
    have a3 := hk.2.2.2.2.2.2 j (by omega) (by omega)
    have a5 := mul_in (bb_in (zbit (S 18 4) j)) a3
    try dsimp only
    omega)
  unfold pwsum
  omega
theorem pmom_in {S : jMem} (hk : cOK S) (hl : lOK S) {x : Int} (hx : 0 ≤ x ∧ x < 3) : 0 ≤ pmom (S 18 4) (S 5) (S 20) (S 21) x ∧ pmom (S 18 4) (S 5) (S 20) (S 21) x ≤ 320000 := by
  have h1 := isum_in (f := fun b => bb (zbit (S 18 4) b) * (S 5 b * (S 20 (b * 3 + x) + S 21 (b * 3 + x)))) (B := 40000) (8 - 0 : Int).toNat 0 (fun j j1 j2 => by
    have a1 := hl.2.1 (j * 3 + x) (by omega) (by omega)
    have a2 := hl.2.2 (j * 3 + x) (by omega) (by omega)
    have a3 := hk.2.2.2.2.2.2 j (by omega) (by omega)
    have a4 := mul_in (y := S 20 (j * 3 + x) + S 21 (j * 3 + x)) (B := 40) a3 (by omega)
    have a5 := mul_in (bb_in (zbit (S 18 4) j)) a4
    try dsimp only
    omega)
  unfold pmom
  omega
theorem povs_in (m : Int) (bg en : Int → Int) : 0 ≤ povs m bg en ∧ povs m bg en ≤ 64 := by
  have h1 := isum_in (f := fun a => isum (povl m bg en a) (a + 1) (8 - (a + 1)).toNat) (B := 8) (8 - 0 : Int).toNat 0 (fun j j1 j2 => by
    have h2 := isum_in (f := povl m bg en j) (B := 1) (8 - (j + 1)).toNat (j + 1) (fun i _ _ => bb_in _)
    try dsimp only
    omega)
  unfold povs
  omega
theorem l_cd {E : jEnv} {G : jG} (hG : cG G) (C : jX E G cX5_commonDivisor 6 RX5 0 0) (S : jMem) (a b : Int) (ha : 0 ≤ a ∧ a ≤ 1000000) (hb : 0 ≤ b ∧ b ≤ 1000000) (R : jR E G (some .int) (jPi (fun v S' => zgcd a b = v ∧ S = S'))) : ∀ (mm : Nat) (s g l : Int), mm = (64 - s).toNat → ((0 ≤ s ∧ s ≤ 64) ∧ cdI a b s g l) → J E G 7 [(2, .int (iI (g))), (3, .int (iI (l))), (4, .int (iI (s)))] [] S := by
  intro mm
  induction mm using Nat.strongRecOn with | ind mm ih => ?_
  intro s g l hm hi
  obtain ⟨hs, hj⟩ := hi
  have h1 := hj.1
  have h2 := hj.2.1
  refine J_iload C 2 dX5_commonDivisor_7 rfl ?_
  refine J_bipush C dX5_commonDivisor_9 (by decide) ?_
  refine J_icmp_ge C 34 dX5_commonDivisor_11 (by decide) (by omega) (by omega) (fun h1 => ?_) (fun h1 => ?_)
  · refine J_iload_n C 0 dX5_commonDivisor_34 rfl ?_
    exact J_iret R C dX5_commonDivisor_35 (jPi.mk ⟨by exact hj.end (by omega), rfl⟩)
  · refine J_iload_n C 1 dX5_commonDivisor_14 rfl ?_
    refine J_if_eq C 34 dX5_commonDivisor_15 (by decide) (by omega) (fun h2 => ?_) (fun h2 => ?_)
    · refine J_iload_n C 0 dX5_commonDivisor_34 rfl ?_
      exact J_iret R C dX5_commonDivisor_35 (jPi.mk ⟨by exact hj.end (by omega), rfl⟩)
    · refine J_iload_n C 0 dX5_commonDivisor_18 rfl ?_
      refine J_iload_n C 1 dX5_commonDivisor_19 rfl ?_
      refine J_irem C dX5_commonDivisor_20 (by omega) (by omega) (by omega) (by omega) ?_
      refine J_istore (lv' := [(5, .int (iI ((g) % (l)))), (2, .int (iI (g))), (3, .int (iI (l))), (4, .int (iI (s)))]) C dX5_commonDivisor_21 (by decide) rfl ?_
      refine J_iload_n C 2 dX5_commonDivisor_23 rfl ?_
      refine J_istore_n (lv' := [(2, .int (iI (l))), (5, .int (iI ((g) % (l)))), (3, .int (iI (l))), (4, .int (iI (s)))]) C dX5_commonDivisor_24 (by decide) rfl ?_
      refine J_iload C 1 dX5_commonDivisor_25 rfl ?_
      refine J_istore_n (lv' := [(3, .int (iI ((g) % (l)))), (2, .int (iI (l))), (5, .int (iI ((g) % (l)))), (4, .int (iI (s)))]) C dX5_commonDivisor_27 (by decide) rfl ?_
      refine J_iinc (lv' := [(4, .int (iI (s + 1))), (3, .int (iI ((g) % (l)))), (2, .int (iI (l))), (5, .int (iI ((g) % (l))))]) C 3 dX5_commonDivisor_28 rfl (by decide) rfl ?_
      refine J_goto C 7 dX5_commonDivisor_31 (by decide) ?_
      refine J_lv [2, 1, 0] rfl ?_
      exact ih _ (by omega) (s + 1) _ _ rfl ⟨by omega, hj.step hs.1 (by omega)⟩
theorem c_cd {G : jG} (hG : cG G) (S : jMem) (a b : Int) (ha : 0 ≤ a ∧ a ≤ 1000000) (hb : 0 ≤ b ∧ b ≤ 1000000) : jM G yX5_commonDivisor cX5_commonDivisor 6 (some .int) 0 0 [.int (iI (a)), .int (iI (b))] S (jPi (fun v S' => zgcd a b = v ∧ S = S')) := by
  refine jM.of (by decide) (Nat.le_of_ble_eq_true rfl) (fun E C R => ?_)
  show J E G 0 [(0, .int (iI (a))), (1, .int (iI (b)))] [] _
  refine J_iload_n C 0 dX5_commonDivisor_0 rfl ?_
  refine J_istore_n (lv' := [(2, .int (iI (a))), (0, .int (iI (a))), (1, .int (iI (b)))]) C dX5_commonDivisor_1 (by decide) rfl ?_
  refine J_iload_n C 2 dX5_commonDivisor_2 rfl ?_
  refine J_istore_n (lv' := [(3, .int (iI (b))), (2, .int (iI (a))), (0, .int (iI (a))), (1, .int (iI (b)))]) C dX5_commonDivisor_3 (by decide) rfl ?_
  refine J_iconst C dX5_commonDivisor_4 ?_
  refine J_istore (lv' := [(4, .int (iI (0))), (3, .int (iI (b))), (2, .int (iI (a))), (0, .int (iI (a))), (1, .int (iI (b)))]) C dX5_commonDivisor_5 (by decide) rfl ?_
  refine J_lv [2, 1, 0] rfl ?_
  exact l_cd hG C S a b ha hb R _ 0 a b rfl ⟨by omega, ha, hb, rfl, Or.inl rfl⟩
theorem zgcd_nn (x y : Int) : 0 ≤ zgcd x y := Int.natCast_nonneg _
theorem zgcd_lim {x y : Int} (hx : 0 ≤ x ∧ x ≤ 320000) (hy : 0 ≤ y) (hy2 : y ≤ 320000) : zgcd x y ≤ 320000 := by
  rcases Int.lt_or_le 0 y with c | c
  · have := zgcd_le (x := x) c; omega
  · have e : y = 0 := by omega
    subst e; rw [zgcd_0 hx.1]; omega
theorem c_centre {G : jG} (hG : cG G) (S : jMem) (x p : Int) (hk : cOK S) (hl : lOK S) (hx : inR x) (hp : inR p) : jM G yX5_centre cX5_centre 6 (some .int) 2 45 [.ref (jad G 0), .int (iI (x)), .int (iI (p))] S (jPi (fun v S' => (if (0 ≤ x ∧ x ≤ 2) ∧ (0 ≤ p ∧ p ≤ 1) then (if zgcd (pmom (S 18 4) (S 5) (S 20) (S 21) x) (2 * pwsum (S 18 4) (S 5)) = 0 then 0 else if p = 0 then (pmom (S 18 4) (S 5) (S 20) (S 21) x) / zgcd (pmom (S 18 4) (S 5) (S 20) (S 21) x) (2 * pwsum (S 18 4) (S 5)) else (2 * pwsum (S 18 4) (S 5)) / zgcd (pmom (S 18 4) (S 5) (S 20) (S 21) x) (2 * pwsum (S 18 4) (S 5))) else -1) = v ∧ S = S')) := by
  refine jM.of (by decide) (Nat.le_of_ble_eq_true rfl) (fun E C R => ?_)
  show J E G 0 [(0, .ref (jad G 0)), (1, .int (iI (x))), (2, .int (iI (p)))] [] _
  refine J_iload_n C 1 dX5_centre_0 rfl ?_
  refine J_callS (rest := []) C (c_isAxis hG S (x) (by omega)) kc_X5_isAxis kl_X5_134 dX5_centre_1 rfl rfl (by decide) (Nat.le_of_ble_eq_true rfl) (J_ki (fun v1 S1 h1 => ?_))
  obtain ⟨rfl, rfl⟩ := h1
  refine J_if_eq_b C 16 dX5_centre_4 (by decide) (fun h2 => ?_) (fun h2 => ?_)
  · refine J_iconst C dX5_centre_16 ?_
    exact J_iret R C dX5_centre_17 (jPi.mk ⟨by (repeat first | rw [if_pos (by omega)] | rw [if_neg (by omega)]), rfl⟩)
  · refine J_iload_n C 2 dX5_centre_7 rfl ?_
    refine J_if_lt C 16 dX5_centre_8 (by decide) (by omega) (fun h3 => ?_) (fun h3 => ?_)
    · refine J_iconst C dX5_centre_16 ?_
      exact J_iret R C dX5_centre_17 (jPi.mk ⟨by (repeat first | rw [if_pos (by omega)] | rw [if_neg (by omega)]), rfl⟩)
    · refine J_iload_n C 2 dX5_centre_11 rfl ?_
      refine J_iconst C dX5_centre_12 ?_
      refine J_icmp_le C 18 dX5_centre_13 (by decide) (by omega) (by omega) (fun h4 => ?_) (fun h4 => ?_)
      · have hpm := pmom_in hk hl (x := x) (by omega)
        have hpw := pwsum_in hk
        refine J_aload_n C 0 dX5_centre_18 rfl ?_
        refine g_X5_28 hG C dX5_centre_19 ?_
        refine J_iload_n C 1 dX5_centre_22 rfl ?_
        refine J_callV (k := 18) (rest := []) C (c_moment hG S (x) hl (by omega)) kc_X2_doubledMoment kl_X5_137 (by rw [hG.2]; decide) (by rw [hG.1]; rfl) rfl dX5_centre_23 rfl rfl (by decide) (Nat.le_of_ble_eq_true rfl) (J_ki (fun v5 S5 h5 => ?_))
        obtain ⟨rfl, rfl⟩ := h5
        refine J_istore_n (lv' := [(3, .int (iI (pmom (S 18 4) (S 5) (S 20) (S 21) (x)))), (0, .ref (jad G 0)), (1, .int (iI (x))), (2, .int (iI (p)))]) C dX5_centre_26 (by decide) rfl ?_
        refine J_iconst C dX5_centre_27 ?_
        refine J_aload_n C 1 dX5_centre_28 rfl ?_
        refine g_X5_28 hG C dX5_centre_29 ?_
        refine J_callV (k := 18) (rest := [.int (iI (2))]) C (c_weightSum hG S hl) kc_X2_weightSum kl_X5_140 (by rw [hG.2]; decide) (by rw [hG.1]; rfl) rfl dX5_centre_32 rfl rfl (by decide) (Nat.le_of_ble_eq_true rfl) (J_ki (fun v6 S6 h6 => ?_))
        obtain ⟨rfl, rfl⟩ := h6
        refine J_imul C dX5_centre_35 ?_
        refine J_istore (lv' := [(4, .int (iI ((2) * (pwsum (S 18 4) (S 5))))), (3, .int (iI (pmom (S 18 4) (S 5) (S 20) (S 21) (x)))), (0, .ref (jad G 0)), (1, .int (iI (x))), (2, .int (iI (p)))]) C dX5_centre_36 (by decide) rfl ?_
        refine J_iload_n C 1 dX5_centre_38 rfl ?_
        refine J_iload C 0 dX5_centre_39 rfl ?_
        refine J_callS (rest := []) C (c_cd hG S (pmom (S 18 4) (S 5) (S 20) (S 21) (x)) ((2) * (pwsum (S 18 4) (S 5))) (by omega) (by omega)) kc_X5_commonDivisor kl_X5_143 dX5_centre_41 rfl rfl (by decide) (Nat.le_of_ble_eq_true rfl) (J_ki (fun v7 S7 h7 => ?_))
        obtain ⟨rfl, rfl⟩ := h7
        have hgc := zgcd_nn (pmom (S 18 4) (S 5) (S 20) (S 21) x) (2 * pwsum (S 18 4) (S 5))
        have hgl := zgcd_lim (x := pmom (S 18 4) (S 5) (S 20) (S 21) x) (y := 2 * pwsum (S 18 4) (S 5)) (by omega) (by omega) (by omega)
        refine J_istore (lv' := [(5, .int (iI (zgcd (pmom (S 18 4) (S 5) (S 20) (S 21) (x)) ((2) * (pwsum (S 18 4) (S 5)))))), (4, .int (iI ((2) * (pwsum (S 18 4) (S 5))))), (3, .int (iI (pmom (S 18 4) (S 5) (S 20) (S 21) (x)))), (0, .ref (jad G 0)), (1, .int (iI (x))), (2, .int (iI (p)))]) C dX5_centre_44 (by decide) rfl ?_
        refine J_iload C 0 dX5_centre_46 rfl ?_
        refine J_if_ne C 53 dX5_centre_48 (by decide) (by omega) (fun h8 => ?_) (fun h8 => ?_)
        · refine J_iload_n C 5 dX5_centre_53 rfl ?_
          refine J_if_ne C 61 dX5_centre_54 (by decide) (by omega) (fun h9 => ?_) (fun h9 => ?_)
          · refine J_iload C 1 dX5_centre_61 rfl ?_
            refine J_iload C 0 dX5_centre_63 rfl ?_
            refine J_idiv C dX5_centre_65 (by omega) (by omega) (by omega) (by omega) ?_
            exact J_iret R C dX5_centre_66 (jPi.mk ⟨by (repeat first | rw [if_pos (by omega)] | rw [if_neg (by omega)]), rfl⟩)
          · refine J_iload_n C 2 dX5_centre_57 rfl ?_
            refine J_goto C 63 dX5_centre_58 (by decide) ?_
            refine J_iload C 0 dX5_centre_63 rfl ?_
            refine J_idiv C dX5_centre_65 (by omega) (by omega) (by omega) (by omega) ?_
            exact J_iret R C dX5_centre_66 (jPi.mk ⟨by (repeat first | rw [if_pos (by omega)] | rw [if_neg (by omega)]), rfl⟩)
        · refine J_iconst C dX5_centre_51 ?_
          exact J_iret R C dX5_centre_52 (jPi.mk ⟨by (repeat first | rw [if_pos (by omega)] | rw [if_neg (by omega)]), rfl⟩)
      · refine J_iconst C dX5_centre_16 ?_
        exact J_iret R C dX5_centre_17 (jPi.mk ⟨by (repeat first | rw [if_pos (by omega)] | rw [if_neg (by omega)]), rfl⟩)
def plC (S0 : jMem) (k : Int) (S : jMem) : Prop := keeps [18, 19, 20, 21] S0 S ∧ lOK S ∧ (∀ j, 0 ≤ j → (zbit (S 18 4) j ↔ zbit (S0 18 4) j ∨ anyB (fun e => S0 7 e = j) k)) ∧ ∀ e, 0 ≤ e → e < k → S 19 (S0 7 e) = S0 9 e ∧ (S 20 (S0 7 e * 3) = S0 12 (e * 3) ∧ S 20 (S0 7 e * 3 + 1) = S0 12 (e * 3 + 1) ∧ S 20 (S0 7 e * 3 + 2) = S0 12 (e * 3 + 2)) ∧ (S 21 (S0 7 e * 3) = S0 12 (e * 3) + pext (S0 3) (S0 7 e) (S0 9 e) 0 ∧ S 21 (S0 7 e * 3 + 1) = S0 12 (e * 3 + 1) + pext (S0 3) (S0 7 e) (S0 9 e) 1 ∧ S 21 (S0 7 e * 3 + 2) = S0 12 (e * 3 + 2) + pext (S0 3) (S0 7 e) (S0 9 e) 2)
def plH (S : jMem) : Prop := ∀ e, 0 ≤ e → e < S 1 4 → ∃ w, isWay (S 1 4) (S 2) (S 3) (S 4) (S 7 e) w (S 9 e) (S 12 (e * 3)) (S 12 (e * 3 + 1)) (S 12 (e * 3 + 2))
section Pu
variable {S : jMem} {b t x y z : Int}
theorem putS.k {q : Nat} (h : q ∉ [18, 19, 20, 21]) : putS S b t x y z q = S q := by
  simp only [List.mem_cons, List.not_mem_nil, or_false, not_or] at h
  obtain ⟨h1, h2, h3, h4⟩ := h
  unfold putS
  rw [up2_k _ _ _ h1, up2_k _ _ _ h4, up2_k _ _ _ h4, up2_k _ _ _ h4, up2_k _ _ _ h3, up2_k _ _ _ h3, up2_k _ _ _ h3, up2_k _ _ _ h2]
theorem putS.c18 : putS S b t x y z 18 4 = zor (S 18 4) (1 * 2 ^ b.toNat) := by unfold putS; rw [up2_eq]
theorem putS.c19 : putS S b t x y z 19 = fset (S 19) b t := by
  unfold putS; rw [up2_k _ _ _ (by decide), up2_k _ _ _ (by decide), up2_k _ _ _ (by decide), up2_k _ _ _ (by decide), up2_k _ _ _ (by decide), up2_k _ _ _ (by decide), up2_k _ _ _ (by decide), up2_s]
theorem putS.c20 : putS S b t x y z 20 = fset (fset (fset (S 20) (b * 3) x) (b * 3 + 1) y) (b * 3 + 2) z := by
  unfold putS; rw [up2_k _ _ _ (by decide), up2_k _ _ _ (by decide), up2_k _ _ _ (by decide), up2_k _ _ _ (by decide), up2_s, up2_s, up2_s, up2_k _ _ _ (by decide)]
theorem putS.c21 : putS S b t x y z 21 = fset (fset (fset (S 21) (b * 3) (x + pext (S 3) b t 0)) (b * 3 + 1) (y + pext (S 3) b t 1)) (b * 3 + 2) (z + pext (S 3) b t 2) := by
  unfold putS; rw [up2_k _ _ _ (by decide), up2_s, up2_s, up2_s, up2_k _ _ _ (by decide), up2_k _ _ _ (by decide), up2_k _ _ _ (by decide), up2_k _ _ _ (by decide), Int.add_zero]
theorem putS.own : (putS S b t x y z 19 b = t ∧ putS S b t x y z 20 (b * 3) = x ∧ putS S b t x y z 20 (b * 3 + 1) = y ∧ putS S b t x y z 20 (b * 3 + 2) = z) ∧ (putS S b t x y z 21 (b * 3) = x + pext (S 3) b t 0 ∧ putS S b t x y z 21 (b * 3 + 1) = y + pext (S 3) b t 1 ∧ putS S b t x y z 21 (b * 3 + 2) = z + pext (S 3) b t 2) := by
  rw [putS.c19, putS.c20, putS.c21]
  refine ⟨⟨fset_e _ _ _, ?_, ?_, fset_e _ _ _⟩, ?_, ?_, fset_e _ _ _⟩
  · rw [fset_n _ _ (by omega), fset_n _ _ (by omega), fset_e]
  · rw [fset_n _ _ (by omega), fset_e]
  · rw [fset_n _ _ (by omega), fset_n _ _ (by omega), fset_e]
  · rw [fset_n _ _ (by omega), fset_e]
theorem putS.oth {c : Int} (h : c ≠ b) : (putS S b t x y z 19 c = S 19 c ∧ putS S b t x y z 20 (c * 3) = S 20 (c * 3) ∧ putS S b t x y z 20 (c * 3 + 1) = S 20 (c * 3 + 1) ∧ putS S b t x y z 20 (c * 3 + 2) = S 20 (c * 3 + 2)) ∧ (putS S b t x y z 21 (c * 3) = S 21 (c * 3) ∧ putS S b t x y z 21 (c * 3 + 1) = S 21 (c * 3 + 1) ∧ putS S b t x y z 21 (c * 3 + 2) = S 21 (c * 3 + 2)) := by
  rw [putS.c19, putS.c20, putS.c21]
  refine ⟨⟨fset_n _ _ h, ?_, ?_, ?_⟩, ?_, ?_, ?_⟩
  all_goals rw [fset_n _ _ (by omega), fset_n _ _ (by omega), fset_n _ _ (by omega)]
end Pu
theorem plC.put {S0 S : jMem} {k : Int} (h : plC S0 k S) (hk : cOK S0) (hs : cS S0) (hp : plH S0) (hkk : 0 ≤ k ∧ k < S0 1 4) : plC S0 (k + 1) (putS S (S 7 k) (S 9 k) (S 12 (k * 3)) (S 12 (k * 3 + 1)) (S 12 (k * 3 + 2))) := by
  obtain ⟨h1, h2, h3, h4⟩ := h
  have hn := hk.1
  have hb := cord_in hk hs hkk
  have hkS : cOK S := h1.ok (by decide) hk
  obtain ⟨w, hw⟩ := hp k hkk.1 hkk.2
  obtain ⟨-, i0, i1, i2⟩ := isWay.in hk (by omega) hw
  have l0 := hk.2.1 0 (by omega) (by omega)
  have l1 := hk.2.1 1 (by omega) (by omega)
  have l2 := hk.2.1 2 (by omega) (by omega)
  rw [h1 7 (by decide), h1 9 (by decide), h1 12 (by decide)]
  have e3 : S 3 = S0 3 := h1 3 (by decide)
  refine ⟨fun q hq => by rw [putS.k hq]; exact h1 q hq, putS.l hkS h2 (by omega) (by rw [e3]; omega) (by rw [e3]; omega) (by rw [e3]; omega), fun j hj => ?_, fun e e1 e2 => ?_⟩
  · rw [putS.c18, zbit_zor h2.1.1 hb.1 hj, h3 j hj, anyB_s hkk.1]
    constructor
    · rintro ((q | q) | q)
      · exact Or.inl q
      · exact Or.inr (Or.inl q)
      · exact Or.inr (Or.inr q.symm)
    · rintro (q | q | q)
      · exact Or.inl (Or.inl q)
      · exact Or.inl (Or.inr q)
      · exact Or.inr q.symm
  · by_cases c : e = k
    · subst c
      obtain ⟨⟨a1, a2, a3, a4⟩, a5, a6, a7⟩ := putS.own (S := S) (b := S0 7 e) (t := S0 9 e) (x := S0 12 (e * 3)) (y := S0 12 (e * 3 + 1)) (z := S0 12 (e * 3 + 2))
      rw [e3] at a5 a6 a7
      exact ⟨a1, ⟨a2, a3, a4⟩, a5, a6, a7⟩
    · have hne : S0 7 e ≠ S0 7 k := fun q => c (isOrd.inj _ hs.1 e k e1 (by omega) hkk.1 (by omega) q)
      obtain ⟨⟨a1, a2, a3, a4⟩, a5, a6, a7⟩ := putS.oth (S := S) (b := S0 7 k) (t := S0 9 k) (x := S0 12 (k * 3)) (y := S0 12 (k * 3 + 1)) (z := S0 12 (k * 3 + 2)) hne
      rw [a1, a2, a3, a4, a5, a6, a7]
      exact h4 e e1 (by omega)
theorem l_plan {E : jEnv} {G : jG} (hG : cG G) (C : jX E G cX5_plan 3 RX5 2 50) (S0 : jMem) (hk : cOK S0) (hs : cS S0) (hp : plH S0) (R : jR E G (some .int) (jPi (fun v S' => v = S0 1 4 ∧ plC S0 (S0 1 4) S'))) : ∀ (mm : Nat) (k : Int) (S : jMem), mm = (S0 1 4 - k).toNat → ((0 ≤ k ∧ k ≤ S0 1 4) ∧ plC S0 k S) → J E G 16 [(0, .ref (jad G 0)), (1, .int (iI (k)))] [] S := by
  intro mm
  induction mm using Nat.strongRecOn with | ind mm ih => ?_
  intro k S hm hi
  obtain ⟨hkk, hj⟩ := hi
  have hn := hk.1
  have e1 : S 1 4 = S0 1 4 := by rw [hj.1 1 (by decide)]
  refine J_iload_n C 1 dX5_plan_16 rfl ?_
  refine J_aload_n C 0 dX5_plan_17 rfl ?_
  refine g_X5_12 hG C dX5_plan_18 ?_
  refine g_X5_59 hG C dX5_plan_21 ?_
  refine J_icmp_ge C 93 dX5_plan_24 (by decide) (by omega) (by omega) (fun h1 => ?_) (fun h1 => ?_)
  · refine J_aload_n C 0 dX5_plan_93 rfl ?_
    refine g_X5_12 hG C dX5_plan_94 ?_
    refine g_X5_59 hG C dX5_plan_97 ?_
    have ek : k = S0 1 4 := by omega
    rw [ek] at hj
    exact J_iret R C dX5_plan_100 (jPi.mk ⟨e1, hj⟩)
  · have hbk := cord_in hk hs (d := k) (by omega)
    obtain ⟨ww, hww⟩ := hp k (by omega) (by omega)
    have ht6 := hww.1
    refine J_iload_n C 1 dX5_plan_27 rfl ?_
    refine J_iconst C dX5_plan_28 ?_
    refine J_imul C dX5_plan_29 ?_
    refine J_istore_n (lv' := [(2, .int (iI ((k) * (3)))), (0, .ref (jad G 0)), (1, .int (iI (k)))]) C dX5_plan_30 (by decide) rfl ?_
    refine J_aload_n C 1 dX5_plan_31 rfl ?_
    refine g_X5_28 hG C dX5_plan_32 ?_
    refine J_aload_n C 1 dX5_plan_35 rfl ?_
    refine g_X5_21 hG C dX5_plan_36 ?_
    refine g_X5_83 hG C dX5_plan_39 ?_
    refine J_iload_n C 2 dX5_plan_42 rfl ?_
    refine cald hG C 7 8 (by decide) dX5_plan_43 (by omega) (by omega) ?_
    refine J_aload_n C 1 dX5_plan_44 rfl ?_
    refine g_X5_21 hG C dX5_plan_45 ?_
    refine g_X5_96 hG C dX5_plan_48 ?_
    refine J_iload_n C 2 dX5_plan_51 rfl ?_
    refine cald hG C 9 8 (by decide) dX5_plan_52 (by omega) (by omega) ?_
    refine J_aload_n C 1 dX5_plan_53 rfl ?_
    refine g_X5_21 hG C dX5_plan_54 ?_
    refine g_X5_99 hG C dX5_plan_57 ?_
    refine J_iload_n C 0 dX5_plan_60 rfl ?_
    refine cald hG C 12 24 (by decide) dX5_plan_61 (by omega) (by omega) ?_
    refine J_aload_n C 1 dX5_plan_62 rfl ?_
    refine g_X5_21 hG C dX5_plan_63 ?_
    refine g_X5_99 hG C dX5_plan_66 ?_
    refine J_iload_n C 0 dX5_plan_69 rfl ?_
    refine J_iconst C dX5_plan_70 ?_
    refine J_iadd C dX5_plan_71 ?_
    refine cald hG C 12 24 (by decide) dX5_plan_72 (by omega) (by omega) ?_
    refine J_aload_n C 1 dX5_plan_73 rfl ?_
    refine g_X5_21 hG C dX5_plan_74 ?_
    refine g_X5_99 hG C dX5_plan_77 ?_
    refine J_iload_n C 0 dX5_plan_80 rfl ?_
    refine J_iconst C dX5_plan_81 ?_
    refine J_iadd C dX5_plan_82 ?_
    refine cald hG C 12 24 (by decide) dX5_plan_83 (by omega) (by omega) ?_
    refine J_callV (k := 18) (rest := []) C (c_put hG S (S 7 (k)) (S 9 (k)) (S 12 ((k) * (3))) (S 12 (((k) * (3)) + (1))) (S 12 (((k) * (3)) + (2))) (hj.1.ok (by decide) hk) hj.2.1 (by rw [hj.1 7 (by decide)]; omega) (by rw [hj.1 9 (by decide)]; omega)) kc_X2_put kl_X5_102 (by rw [hG.2]; decide) (by rw [hG.1]; rfl) rfl dX5_plan_84 rfl rfl (by decide) (Nat.le_of_ble_eq_true rfl) (J_kv (fun S2 h2 => ?_))
    subst h2
    refine J_iinc (lv' := [(1, .int (iI (k + 1))), (2, .int (iI ((k) * (3)))), (0, .ref (jad G 0))]) C 2 dX5_plan_87 rfl (by decide) rfl ?_
    refine J_goto C 16 dX5_plan_90 (by decide) ?_
    refine J_lv [2, 0] rfl ?_
    exact ih _ (by omega) (k + 1) _ rfl ⟨by omega, hj.put hk hs hp (by omega)⟩
theorem c_plan {G : jG} (hG : cG G) (S0 : jMem) (hk : cOK S0) (hs : cS S0) (hl : lOK S0) (h15 : S0 6 15 = 0 ∨ S0 6 15 = 1 ∨ S0 6 15 = 2) (hp : S0 6 15 = 1 → plH S0) : jM G yX5_plan cX5_plan 3 (some .int) 2 50 [.ref (jad G 0)] S0 (jPi (fun v S' => if S0 6 15 = 1 then v = S0 1 4 ∧ plC S0 (S0 1 4) S' else v = -2 ∧ S' = S0)) := by
  refine jM.of (by decide) (Nat.le_of_ble_eq_true rfl) (fun E C R => ?_)
  show J E G 0 [(0, .ref (jad G 0))] [] _
  have hn := hk.1
  refine J_aload_n C 0 dX5_plan_0 rfl ?_
  refine g_X5_21 hG C dX5_plan_1 ?_
  refine g_X5_93 hG C dX5_plan_4 ?_
  refine J_iconst C dX5_plan_7 ?_
  refine J_icmp_eq C 14 dX5_plan_8 (by decide) (by omega) (by omega) (fun h1 => ?_) (fun h1 => ?_)
  · refine J_iconst C dX5_plan_14 ?_
    refine J_istore_n (lv' := [(1, .int (iI (0))), (0, .ref (jad G 0))]) C dX5_plan_15 (by decide) rfl ?_
    have hc : S0 6 15 = 1 := by omega
    simp only [if_pos hc] at R
    refine J_lv [1, 0] rfl ?_
    exact l_plan hG C S0 hk hs (hp hc) R _ 0 S0 rfl ⟨by omega, keeps.rf, hl, fun j hj => ⟨Or.inl, fun q => q.elim id (fun q => absurd q anyB_n)⟩, fun e e1 e2 => by omega⟩
  · refine J_bipush C dX5_plan_11 (by decide) ?_
    exact J_iret R C dX5_plan_13 (jPi.mk (by rw [if_neg (by omega)]; exact ⟨rfl, rfl⟩))
theorem c_tree {G : jG} (hG : cG G) (S : jMem) (hl : lOK S) (hm : S 18 4 ≠ 0 → csOK S (S 18 4)) : jM G yX5_tree cX5_tree 1 (some .int) 4 97 [.ref (jad G 0)] S (jPi (fun v S' => if 0 < povs (S 18 4) (S 20) (S 21) then v = -2 ∧ S' = S else cuEnd S (S 18 4) v S')) := by
  refine jM.of (by decide) (Nat.le_of_ble_eq_true rfl) (fun E C R => ?_)
  show J E G 0 [(0, .ref (jad G 0))] [] _
  have hmo := povs_in (S 18 4) (S 20) (S 21)
  refine J_aload_n C 0 dX5_tree_0 rfl ?_
  refine g_X5_28 hG C dX5_tree_1 ?_
  refine J_callV (k := 18) (rest := []) C (c_overlapCount hG S hl) kc_X2_overlapCount kl_X5_110 (by rw [hG.2]; decide) (by rw [hG.1]; rfl) rfl dX5_tree_4 rfl rfl (by decide) (Nat.le_of_ble_eq_true rfl) (J_ki (fun v1 S1 h1 => ?_))
  obtain ⟨rfl, rfl⟩ := h1
  refine J_if_le C 15 dX5_tree_7 (by decide) (by omega) (fun h2 => ?_) (fun h2 => ?_)
  · refine J_aload_n C 0 dX5_tree_15 rfl ?_
    refine g_X5_37 hG C dX5_tree_16 ?_
    refine J_callV (k := 22) (rest := []) C (c_build hG S hl hm) kc_X0_build kl_X5_146 (by rw [hG.2]; decide) (by rw [hG.1]; rfl) rfl dX5_tree_19 rfl rfl (by decide) (Nat.le_of_ble_eq_true rfl) (J_ki (fun v3 S3 h3 => ?_))
    have hE := h3
    have hvE : 0 ≤ v3 ∧ v3 ≤ 15 := by obtain ⟨X, -, -, q, -⟩ := hE; exact q
    exact J_iret R C dX5_tree_22 (jPi.mk (by rw [if_neg (by omega)]; exact hE))
  · refine J_bipush C dX5_tree_10 (by decide) ?_
    refine J_goto C 22 dX5_tree_12 (by decide) ?_
    exact J_iret R C dX5_tree_22 (jPi.mk (by rw [if_pos (by omega)]; exact ⟨rfl, rfl⟩))
def ndC (S : jMem) (k w v : Int) (S' : jMem) : Prop := if (0 ≤ k ∧ k ≤ 14) ∧ (0 ≤ w ∧ w ≤ 3) then (if 0 < povs (S 18 4) (S 20) (S 21) then v = -2 ∧ S' = S else ∃ c, cuEnd S (S 18 4) c S' ∧ ((c ≤ k ∧ v = -9) ∨ (k < c ∧ v = S' 23 (k * 4 + w)))) else v = -1 ∧ S' = S
theorem c_node {G : jG} (hG : cG G) (S : jMem) (k w : Int) (hl : lOK S) (hm : S 18 4 ≠ 0 → csOK S (S 18 4)) (hkr : inR k) (hwr : inR w) : jM G yX5_node cX5_node 3 (some .int) 4 97 [.ref (jad G 0), .int (iI (k)), .int (iI (w))] S (jPi (fun v S' => ndC S k w v S')) := by
  refine jM.of (by decide) (Nat.le_of_ble_eq_true rfl) (fun E C R => ?_)
  show J E G 0 [(0, .ref (jad G 0)), (1, .int (iI (k))), (2, .int (iI (w)))] [] _
  have hmo := povs_in (S 18 4) (S 20) (S 21)
  refine J_iload_n C 1 dX5_node_0 rfl ?_
  refine J_if_lt C 19 dX5_node_1 (by decide) (by omega) (fun h1 => ?_) (fun h1 => ?_)
  · refine J_iconst C dX5_node_19 ?_
    exact J_iret R C dX5_node_20 (jPi.mk (by unfold ndC; rw [if_neg (by omega)]; exact ⟨rfl, rfl⟩))
  · refine J_iload_n C 1 dX5_node_4 rfl ?_
    refine J_bipush C dX5_node_5 (by decide) ?_
    refine J_icmp_ge C 19 dX5_node_7 (by decide) (by omega) (by omega) (fun h2 => ?_) (fun h2 => ?_)
    · refine J_iconst C dX5_node_19 ?_
      exact J_iret R C dX5_node_20 (jPi.mk (by unfold ndC; rw [if_neg (by omega)]; exact ⟨rfl, rfl⟩))
    · refine J_iload_n C 2 dX5_node_10 rfl ?_
      refine J_if_lt C 19 dX5_node_11 (by decide) (by omega) (fun h3 => ?_) (fun h3 => ?_)
      · refine J_iconst C dX5_node_19 ?_
        exact J_iret R C dX5_node_20 (jPi.mk (by unfold ndC; rw [if_neg (by omega)]; exact ⟨rfl, rfl⟩))
      · refine J_iload_n C 2 dX5_node_14 rfl ?_
        refine J_iconst C dX5_node_15 ?_
        refine J_icmp_lt C 21 dX5_node_16 (by decide) (by omega) (by omega) (fun h4 => ?_) (fun h4 => ?_)
        · refine J_aload_n C 0 dX5_node_21 rfl ?_
          refine g_X5_28 hG C dX5_node_22 ?_
          refine J_callV (k := 18) (rest := []) C (c_overlapCount hG S hl) kc_X2_overlapCount kl_X5_110 (by rw [hG.2]; decide) (by rw [hG.1]; rfl) rfl dX5_node_25 rfl rfl (by decide) (Nat.le_of_ble_eq_true rfl) (J_ki (fun v5 S5 h5 => ?_))
          obtain ⟨rfl, rfl⟩ := h5
          refine J_if_le C 34 dX5_node_28 (by decide) (by omega) (fun h6 => ?_) (fun h6 => ?_)
          · refine J_iload_n C 1 dX5_node_34 rfl ?_
            refine J_aload_n C 0 dX5_node_35 rfl ?_
            refine g_X5_37 hG C dX5_node_36 ?_
            refine J_callV (k := 22) (rest := [.int (iI (k))]) C (c_build hG S hl hm) kc_X0_build kl_X5_146 (by rw [hG.2]; decide) (by rw [hG.1]; rfl) rfl dX5_node_39 rfl rfl (by decide) (Nat.le_of_ble_eq_true rfl) (J_ki (fun v7 S7 h7 => ?_))
            have hE := h7
            have hvE : 0 ≤ v7 ∧ v7 ≤ 15 := by obtain ⟨X, -, -, q, -⟩ := hE; exact q
            refine J_icmp_ge C 61 dX5_node_42 (by decide) (by omega) (by omega) (fun h8 => ?_) (fun h8 => ?_)
            · refine J_bipush C dX5_node_61 (by decide) ?_
              exact J_iret R C dX5_node_63 (jPi.mk (by unfold ndC; rw [if_pos (by omega), if_neg (by omega)]; exact ⟨_, hE, Or.inl ⟨by omega, rfl⟩⟩))
            · refine J_aload_n C 0 dX5_node_45 rfl ?_
              refine g_X5_37 hG C dX5_node_46 ?_
              refine g_X5_149 hG C dX5_node_49 ?_
              refine J_iload_n C 1 dX5_node_52 rfl ?_
              refine J_iconst C dX5_node_53 ?_
              refine J_imul C dX5_node_54 ?_
              refine J_iload_n C 2 dX5_node_55 rfl ?_
              refine J_iadd C dX5_node_56 ?_
              refine cald hG C 23 60 (by decide) dX5_node_57 (by omega) (by omega) ?_
              refine J_goto C 63 dX5_node_58 (by decide) ?_
              exact J_iret R C dX5_node_63 (jPi.mk (by unfold ndC; rw [if_pos (by omega), if_neg (by omega)]; exact ⟨_, hE, Or.inr ⟨by omega, rfl⟩⟩))
          · refine J_bipush C dX5_node_31 (by decide) ?_
            exact J_iret R C dX5_node_33 (jPi.mk (by unfold ndC; rw [if_pos (by omega), if_pos (by omega)]; exact ⟨rfl, rfl⟩))
        · refine J_iconst C dX5_node_19 ?_
          exact J_iret R C dX5_node_20 (jPi.mk (by unfold ndC; rw [if_neg (by omega)]; exact ⟨rfl, rfl⟩))
