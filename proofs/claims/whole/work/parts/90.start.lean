/-! the law from its entry -/
section NL
variable {D : va_G} {cl : List vw_C} {A : Nat → Prop} {ws : va_W} {x : Nat × va_E} {H H0 : Heap} {locs : List Loc}
theorem n_at : (ws ++ [x])[ws.length]? = some x := by
  rw [List.getElem?_append_right (Nat.le_refl _), Nat.sub_self]
  rfl
theorem n_one {k : Nat} {q : Nat × va_E} (h : [x][k]? = some q) : q = x := by
  have := List.mem_of_getElem? h
  simpa using this
theorem n_lastP (hP : va_P D cl (ws ++ [x]) H) : va_P D cl [x] H := fun k q hq => by
  rw [n_one hq]
  exact hP _ _ n_at
theorem n_lastD (hD : va_D A (ws ++ [x])) : va_D (fun _ => True) [x] := by
  refine ⟨fun i j p q hi hj _ => ?_, fun _ _ _ => trivial⟩
  have h1 : i < 1 := (List.getElem?_eq_some_iff.mp hi).1
  have h2 : j < 1 := (List.getElem?_eq_some_iff.mp hj).1
  omega
theorem n_free (hD : va_D A (ws ++ [x])) (hS : va_S A H0 H locs) (hA : ∀ q, H0.size ≤ q → A q) : ∀ q, va_A [x] H.size q → A q := by
  intro q h
  rcases h with ⟨k, e, h⟩ | h
  · have := n_one h
    have h2 := hD.2 _ _ (n_at (ws := ws) (x := x))
    rw [← this] at h2
    exact h2
  · exact hA q (Nat.le_trans hS.1 h)
theorem n_old (hP : va_P D cl (ws ++ [x]) H) (hD : va_D A (ws ++ [x])) {k : Nat} {q : Nat × va_E} (h : ws[k]? = some q) : q.1 < H.size ∧ ¬ va_A [x] H.size q.1 := by
  have hk : k < ws.length := (List.getElem?_eq_some_iff.mp h).1
  have h' : (ws ++ [x])[k]? = some q := by rw [List.getElem?_append_left hk]; exact h
  have hl := (hP k q h').lt
  refine ⟨hl, fun z => ?_⟩
  rcases z with ⟨k2, e, z⟩ | z
  · have e1 := n_one z
    have := hD.1 k ws.length q x h' n_at (by rw [← e1])
    omega
  · omega
theorem n_firstP (hP : va_P D cl (ws ++ [x]) H) : va_P D cl ws H := fun k q h => hP k q (by rw [List.getElem?_append_left (List.getElem?_eq_some_iff.mp h).1]; exact h)
theorem n_firstD (hD : va_D A (ws ++ [x])) : va_D A ws := by
  have f : ∀ {k : Nat} {q : Nat × va_E}, ws[k]? = some q → (ws ++ [x])[k]? = some q := fun h => by rw [List.getElem?_append_left (List.getElem?_eq_some_iff.mp h).1]; exact h
  exact ⟨fun i j p q hi hj e => hD.1 i j p q (f hi) (f hj) e, fun k q h => hD.2 k q (f h)⟩
theorem n_arr {s : State} {args : Array Value} {ty : FieldType} (hp : ty = .int ∨ ty = .boolean) (h : (Cond.arrayClass ty).before args s = true) : ∃ cA : ClassId, ArrOfT s cA ty ∧ va_RA s cA ty := by
  obtain ⟨cA, kA, comp, h1, h2, h3⟩ := Cond.arrayClass_spec h
  refine ⟨cA, fun n z => ⟨fun k h => (by cases h), kA, h2, comp, h3⟩, ?_⟩
  rcases hp with rfl | rfl
  · exact h1
  · exact h1
end NL
set_option maxRecDepth 100000 in
theorem n_sides {s : State} {b : Nat} (hgv : (Jvm.Cond.and given_1 narrow_1).before #[Value.ref b] s = true) : ∀ j : Nat, j < 18 → (Term.elem (.static "PlaceRectangles$Stock" "SIDES_OF_TURNS" "[I") (.int (Int32.ofNat j))).eval #[Value.ref b] s none [] s = some (.int (iI (sd j))) := by
  have hs := flat_of_before _ hgv
  have g0 : (Cond.eq (.elem (.static "PlaceRectangles$Stock" "SIDES_OF_TURNS" "[I") (.int 0)) (.int 0)).before #[Value.ref b] s = true := hs _ (by decide +kernel)
  have g1 : (Cond.eq (.elem (.static "PlaceRectangles$Stock" "SIDES_OF_TURNS" "[I") (.int 1)) (.int 1)).before #[Value.ref b] s = true := hs _ (by decide +kernel)
  have g2 : (Cond.eq (.elem (.static "PlaceRectangles$Stock" "SIDES_OF_TURNS" "[I") (.int 2)) (.int 2)).before #[Value.ref b] s = true := hs _ (by decide +kernel)
  have g3 : (Cond.eq (.elem (.static "PlaceRectangles$Stock" "SIDES_OF_TURNS" "[I") (.int 3)) (.int 0)).before #[Value.ref b] s = true := hs _ (by decide +kernel)
  have g4 : (Cond.eq (.elem (.static "PlaceRectangles$Stock" "SIDES_OF_TURNS" "[I") (.int 4)) (.int 2)).before #[Value.ref b] s = true := hs _ (by decide +kernel)
  have g5 : (Cond.eq (.elem (.static "PlaceRectangles$Stock" "SIDES_OF_TURNS" "[I") (.int 5)) (.int 1)).before #[Value.ref b] s = true := hs _ (by decide +kernel)
  have g6 : (Cond.eq (.elem (.static "PlaceRectangles$Stock" "SIDES_OF_TURNS" "[I") (.int 6)) (.int 1)).before #[Value.ref b] s = true := hs _ (by decide +kernel)
  have g7 : (Cond.eq (.elem (.static "PlaceRectangles$Stock" "SIDES_OF_TURNS" "[I") (.int 7)) (.int 0)).before #[Value.ref b] s = true := hs _ (by decide +kernel)
  have g8 : (Cond.eq (.elem (.static "PlaceRectangles$Stock" "SIDES_OF_TURNS" "[I") (.int 8)) (.int 2)).before #[Value.ref b] s = true := hs _ (by decide +kernel)
  have g9 : (Cond.eq (.elem (.static "PlaceRectangles$Stock" "SIDES_OF_TURNS" "[I") (.int 9)) (.int 1)).before #[Value.ref b] s = true := hs _ (by decide +kernel)
  have g10 : (Cond.eq (.elem (.static "PlaceRectangles$Stock" "SIDES_OF_TURNS" "[I") (.int 10)) (.int 2)).before #[Value.ref b] s = true := hs _ (by decide +kernel)
  have g11 : (Cond.eq (.elem (.static "PlaceRectangles$Stock" "SIDES_OF_TURNS" "[I") (.int 11)) (.int 0)).before #[Value.ref b] s = true := hs _ (by decide +kernel)
  have g12 : (Cond.eq (.elem (.static "PlaceRectangles$Stock" "SIDES_OF_TURNS" "[I") (.int 12)) (.int 2)).before #[Value.ref b] s = true := hs _ (by decide +kernel)
  have g13 : (Cond.eq (.elem (.static "PlaceRectangles$Stock" "SIDES_OF_TURNS" "[I") (.int 13)) (.int 0)).before #[Value.ref b] s = true := hs _ (by decide +kernel)
  have g14 : (Cond.eq (.elem (.static "PlaceRectangles$Stock" "SIDES_OF_TURNS" "[I") (.int 14)) (.int 1)).before #[Value.ref b] s = true := hs _ (by decide +kernel)
  have g15 : (Cond.eq (.elem (.static "PlaceRectangles$Stock" "SIDES_OF_TURNS" "[I") (.int 15)) (.int 2)).before #[Value.ref b] s = true := hs _ (by decide +kernel)
  have g16 : (Cond.eq (.elem (.static "PlaceRectangles$Stock" "SIDES_OF_TURNS" "[I") (.int 16)) (.int 1)).before #[Value.ref b] s = true := hs _ (by decide +kernel)
  have g17 : (Cond.eq (.elem (.static "PlaceRectangles$Stock" "SIDES_OF_TURNS" "[I") (.int 17)) (.int 0)).before #[Value.ref b] s = true := hs _ (by decide +kernel)
  intro j hj
  match j, hj with
  | 0, _ => exact va_eqt g0
  | 1, _ => exact va_eqt g1
  | 2, _ => exact va_eqt g2
  | 3, _ => exact va_eqt g3
  | 4, _ => exact va_eqt g4
  | 5, _ => exact va_eqt g5
  | 6, _ => exact va_eqt g6
  | 7, _ => exact va_eqt g7
  | 8, _ => exact va_eqt g8
  | 9, _ => exact va_eqt g9
  | 10, _ => exact va_eqt g10
  | 11, _ => exact va_eqt g11
  | 12, _ => exact va_eqt g12
  | 13, _ => exact va_eqt g13
  | 14, _ => exact va_eqt g14
  | 15, _ => exact va_eqt g15
  | 16, _ => exact va_eqt g16
  | 17, _ => exact va_eqt g17
  | n + 18, h => exact absurd h (by omega)
set_option maxRecDepth 100000 in
theorem n_table {s : State} {b : Nat} (G : Nat → jG) (hG : ∀ t, jt (G t) = t) (hts : ∀ w ∈ lw_tbl, w.before #[Value.ref b] s = true) (hgv : (Jvm.Cond.and given_1 narrow_1).before #[Value.ref b] s = true) : ∃ t : Nat, jst (G t) (fun q : Nat => s.heap.size ≤ q) s s.heap := by
  have hs := flat_of_before _ hgv
  have h1 : (Cond.arrayOf (.static "PlaceRectangles$Stock" "SIDES_OF_TURNS" "[I") .int).before #[Value.ref b] s = true := hs _ (by decide +kernel)
  have h2 : (Cond.eq (.length (.static "PlaceRectangles$Stock" "SIDES_OF_TURNS" "[I")) (.int 18)).before #[Value.ref b] s = true := hs _ (by decide +kernel)
  obtain ⟨t, h3, h4⟩ := va_Tof (N := 18) (f := fun j => .int (iI (sd j))) (A := fun q : Nat => s.heap.size ≤ q) (by decide) h1 (va_eqt h2) (n_sides hgv) (fun a h => Nat.not_le.mpr h)
  refine ⟨t, ?_, ?_, fun w hw => ?_⟩
  · rw [hG]; exact va_Zof (hts _ (List.mem_of_getElem? (i := 286) rfl)) (hts _ (List.mem_of_getElem? (i := 63) rfl)) h3 (fun a h => Nat.not_le.mpr h)
  · rw [hG]; exact h4
  · simp only [jnest, List.mem_cons, List.not_mem_nil, or_false] at hw
    rcases hw with rfl | rfl
    · exact va_Nw.of rfl (hts _ (List.mem_of_getElem? (i := 541) rfl))
    · exact va_Nw.of rfl (hts _ (List.mem_of_getElem? (i := 369) rfl))
theorem n_stR : stR (z0 2) (z0 1) := ⟨rfl, rfl, rfl, rfl, rfl⟩
set_option maxHeartbeats 8000000 in
set_option maxRecDepth 100000 in
/-- THE LAW, from its entry -/
theorem whole_start {p : Program} {e : Env} {s : State} {m : MethodId} {below : List Frame} {meth : Method} {c : Code} (l : Launch) {b L : Nat} {xs : Nat → Int32} (hL : L ≤ 384) (C0 : lw_At p s m meth c b L xs) : W p l e room_1 s m #[Value.ref b] below meth c s.heap [] 0 0 (lw_Z below #[Value.ref b] s) (entryFrame m ([Value.ref b] : List Value).toArray 4) := by
  obtain ⟨hx, hb, hr, hml, hown, htb, hX, hbl, hlocks, hgv⟩ := id C0
  have hts : ∀ w ∈ lw_good, w.before #[Value.ref b] s = true := fun w hw => htb w (lw_good_in hw)
  have hA : ∀ q : Nat, s.heap.size ≤ q → (fun q : Nat => s.heap.size ≤ q) q := fun _ h => h
  obtain ⟨c0, i0, hKn0⟩ := u_known (C := RX0) (T := TX0) (N := 3) (n := 3) hts ku_X0 (hts _ kb_X0)
  obtain ⟨c1, i1, hKn1⟩ := u_known (C := RX1) (T := TX1) (N := 10) (n := 10) hts ku_X1 (hts _ kb_X1)
  obtain ⟨c2, i2, hKn2⟩ := u_known (C := RX2) (T := TX2) (N := 5) (n := 5) hts ku_X2 (hts _ kb_X2)
  obtain ⟨c3, i3, hKn3⟩ := u_known (C := RX3) (T := TX3) (N := 16) (n := 16) hts ku_X3 (hts _ kb_X3)
  obtain ⟨c4, i4, hKn4⟩ := u_known (C := RX4) (T := TX4) (N := 5) (n := 5) hts ku_X4 (hts _ kb_X4)
  obtain ⟨c5, i5, hKn5⟩ := u_known (C := RX5) (T := TX5) (N := 5) (n := 5) hts ku_X5 (hts _ kb_X5)
  obtain ⟨c6, i6, hKn6⟩ := u_known (C := RX6) (T := TX6) (N := 27) (n := 27) hts ku_X6 (hts _ kb_X6)
  obtain ⟨dC, dI, hKc⟩ : ∃ (dC : Nat → ClassId) (dI : Nat → Nat → Nat), ∀ (k : Nat) (q : vw_C), vwCl[k]? = some q → u_Kn s q.1 q.2.1 q.2.2 (dC k) (dI k) := by
    refine ⟨fun k => match k with | 0 => c0 | 1 => c1 | 2 => c2 | 3 => c3 | 4 => c4 | 5 => c5 | _ => c6, fun k => match k with | 0 => i0 | 1 => i1 | 2 => i2 | 3 => i3 | 4 => i4 | 5 => i5 | _ => i6, ?_⟩
    intro k q hq
    match k, hq with
    | 0, hq => cases hq; exact hKn0
    | 1, hq => cases hq; exact hKn1
    | 2, hq => cases hq; exact hKn2
    | 3, hq => cases hq; exact hKn3
    | 4, hq => cases hq; exact hKn4
    | 5, hq => cases hq; exact hKn5
    | 6, hq => cases hq; exact hKn6
    | k + 7, hq => simp [vwCl] at hq
  obtain ⟨cI, hI1, hI2⟩ := n_arr (Or.inl rfl) (hts _ ka_int)
  obtain ⟨cZ, hZ1, hZ2⟩ := n_arr (Or.inr rfl) (hts _ ka_boolean)
  have hK : va_K (dC, dI) vwCl [(cI, .int), (cZ, .boolean)] s := by
    refine ⟨hKc, fun k q h => ?_⟩
    match k, h with
    | 0, h => cases h; exact ⟨hI1, hI2⟩
    | 1, h => cases h; exact ⟨hZ1, hZ2⟩
    | k + 2, h => simp at h
  obtain ⟨t, hT⟩ := n_table (fun t => nG l dC dI cI cZ t (fun _ => 0)) (fun _ => rfl) htb hgv
  have hN : va_Nw nwS s := va_Nw.of rfl (htb _ (List.mem_of_getElem? (i := 81) rfl))
  have hS : va_S (fun q : Nat => s.heap.size ≤ q) s.heap s.heap [] := va_S.rf
  have hP : va_P (dC, dI) vwCl [] s.heap := fun k q h => by simp at h
  have hD : va_D (fun q : Nat => s.heap.size ≤ q) [] := ⟨fun i j p q h => by simp at h, fun k q h => by simp at h⟩
  have hl := lv_entry ([.ref b]) (n := 4) (Nat.le_of_ble_eq_true rfl)
  rw [lg_entry_eq]
  generalize (lg_sl ([.ref b]) ++ List.replicate (4 - (lg_sl ([.ref b])).length) Slot.unset).toArray = ls at hl ⊢
  have hl : lv_has ls 4 [(0, .ref b)] := hl
  refine va_new (ci := 5) (fs := [.null, .null, .null, .null, .null]) (C := RX5) (T := TX5) (N := 5) hx hb hts ku_X5 tyX5 tyX5_ok hown (hts _ kn_L_7) (hts _ kb_X5) (hts _ kz_X5) hK hP hD hS hA rfl (fun j hj => by match j, hj with | 0, _ => rfl | 1, _ => rfl | 2, _ => rfl | 3, _ => rfl | 4, _ => rfl | n + 5, h => exact absurd h (by omega)) (Nat.le_of_ble_eq_true rfl) (Nat.le_of_ble_eq_true rfl) dL_law_0 (fun q0 H hP hD hS => ?_)
  refine W.widen (k := 1) (n := 5) (Nat.le_of_ble_eq_true rfl) (Nat.le_of_ble_eq_true rfl) ?_
  have hFc := n_free (ws := []) hD hS hA
  refine lv_dup hx hb dL_law_3 rfl ?_
  refine va_callv (va_runI (As := []) (rest := [.ref q0]) ⟨hx, hb, hml, hown, hts⟩ (k_X5_init l dC dI cI cZ t q0 H.size) (cwI 0 hts (jgood ki_X5_init.1) rfl rfl rfl (hts _ ki_X5_init.1.2.1) (hts _ kl_L_9) (hts _ ki_X5_init.2) rfl ki_X5_init.1.2.2 ⟨Nat.le_of_ble_eq_true rfl, Nat.le_of_ble_eq_true rfl⟩) ⟨nWT.blind5, fun U hU hW => ⟨rfl, ⟨by rw [hU], by rw [hU]; exact n_lastP (ws := []) hP, va_K.moved hW.alike hK, n_lastD (ws := []) hD⟩, by rw [hU]; exact ((hT.kept hS.2.1).narrow hFc).moved hW, va_Nw.warmM hW hN⟩⟩ rfl rfl hl.1 rfl (lv_room (Nat.le_of_ble_eq_true rfl)) dL_law_4 ⟨Nat.le_of_ble_eq_true rfl, Nat.le_of_ble_eq_true rfl⟩) hS (fun q _ h => hFc q h) hFc (fun u t1 H1 locs ht hvm hw hB hz1 hk1 hS => ?_)
  clear hP hD
  obtain ⟨ad, S⟩ := u
  obtain ⟨had, hc⟩ := hw
  obtain ⟨hP, hD1⟩ := hB
  rw [ht] at hP
  dsimp only at had hc hP hD1
  have hD := hD1.weaken (fun k q _ h => hFc _ h)
  clear hD1 hk1 hz1 ht hvm
  generalize H1 = H at hP hS ⊢
  refine W.widen (k := 32) (n := 1911) (Nat.le_of_ble_eq_true rfl) (Nat.le_of_ble_eq_true rfl) ?_
  subst had
  refine lv_astore_n (lv' := [(1, .ref (ad 0)), (0, .ref b)]) hx hb dL_law_7 rfl hl (by decide) rfl (fun ls hl => ?_)
  refine va_new (ci := 6) (fs := [.null, .int 0, .null, .null, .null, .null, .null, .int 0, .int 0, .long 0, .null, .null, .null, .null, .null, .null, .null, .null, .null, .null, .null, .int 0, .null, .null, .null, .int 0, .null]) (C := RX6) (T := TX6) (N := 27) hx hb hts ku_X6 tyX6 tyX6_ok hown (hts _ kn_L_10) (hts _ kb_X6) (hts _ kz_X6) hK hP hD hS hA rfl (fun j hj => by match j, hj with | 0, _ => rfl | 1, _ => rfl | 2, _ => rfl | 3, _ => rfl | 4, _ => rfl | 5, _ => rfl | 6, _ => rfl | 7, _ => rfl | 8, _ => rfl | 9, _ => rfl | 10, _ => rfl | 11, _ => rfl | 12, _ => rfl | 13, _ => rfl | 14, _ => rfl | 15, _ => rfl | 16, _ => rfl | 17, _ => rfl | 18, _ => rfl | 19, _ => rfl | 20, _ => rfl | 21, _ => rfl | 22, _ => rfl | 23, _ => rfl | 24, _ => rfl | 25, _ => rfl | 26, _ => rfl | n + 27, h => exact absurd h (by omega)) (Nat.le_of_ble_eq_true rfl) (Nat.le_of_ble_eq_true rfl) dL_law_8 (fun q8 H hP hD hS => ?_)
  refine W.widen (k := 33) (n := 1938) (Nat.le_of_ble_eq_true rfl) (Nat.le_of_ble_eq_true rfl) ?_
  have hFc := n_free hD hS hA
  have hold := fun (k : Nat) (q : Nat × va_E) (h : (jws (nG l dC dI cI cZ t ad) S)[k]? = some q) => n_old hP hD h
  refine lv_dup hx hb dL_law_11 rfl ?_
  refine va_callv (va_runI (As := []) (rest := [.ref q8]) ⟨hx, hb, hml, hown, hts⟩ (k_X6_init l dC dI cI cZ t q8 H.size) (cwI 0 hts (jgood ki_X6_init.1) rfl rfl rfl (hts _ ki_X6_init.1.2.1) (hts _ kl_L_12) (hts _ ki_X6_init.2) rfl ki_X6_init.1.2.2 ⟨Nat.le_of_ble_eq_true rfl, Nat.le_of_ble_eq_true rfl⟩) ⟨nWT.blind6, fun U hU hW => ⟨rfl, ⟨by rw [hU], by rw [hU]; exact n_lastP hP, va_K.moved hW.alike hK, n_lastD hD⟩, by rw [hU]; exact ((hT.kept hS.2.1).narrow hFc).moved hW, trivial⟩⟩ rfl rfl hl.1 rfl (lv_room (Nat.le_of_ble_eq_true rfl)) dL_law_12 ⟨Nat.le_of_ble_eq_true rfl, Nat.le_of_ble_eq_true rfl⟩) hS (fun q _ h => hFc q h) hFc (fun u t1 H1 locs ht hvm hw hB hz1 hk1 hS => ?_)
  obtain ⟨ad2, M⟩ := u
  obtain ⟨had, hm⟩ := hw
  obtain ⟨hPm, hD1⟩ := hB
  rw [ht] at hPm
  dsimp only at had hm hPm hD1
  have hDm := hD1.weaken (fun k q _ h => hFc _ h)
  have hPc := (n_firstP hP).kept (fun k q h => hk1 q.1 (hold k q h).1 (hold k q h).2)
  have hDc := n_firstD hD
  clear hP hD
  refine W.widen (k := 54) (n := 5805) (Nat.le_of_ble_eq_true rfl) (Nat.le_of_ble_eq_true rfl) ?_
  subst had
  refine lv_astore_n (lv' := [(2, .ref (ad2 0)), (1, .ref (ad 0)), (0, .ref b)]) hx hb dL_law_15 rfl hl (by decide) rfl (fun ls hl => ?_)
  refine lv_iconst (v := iI 0) hx hb dL_law_16 rfl ?_
  refine lv_istore_n (lv' := [(3, .int (iI 0)), (2, .ref (ad2 0)), (1, .ref (ad 0)), (0, .ref b)]) hx hb dL_law_17 rfl hl (by decide) rfl (fun ls hl => ?_)
  have hR : REL S M := REL.anew n_stR z0_m (fun i _ _ => by show (0 : Int) ≤ 0 ∧ (0 : Int) ≤ 20; decide) (fun i _ _ => by show (0 : Int) ≤ 0 ∧ (0 : Int) ≤ 20; decide) (fun i _ _ => by show (0 : Int) ≤ 0 ∧ (0 : Int) ≤ 20; decide) hc hm
  have C : LX ((p, e, s, m, below, meth, c), (b, L, xs), (l, dC, dI, cI, cZ, t, ad, ad2)) := ⟨C0, hL, hK, hT, ⟨jinj_of hDc, jinj_of hDm⟩, jA_in hDc, jA_in hDm, fun q h1 h2 => by
    obtain ⟨k, hk, rfl⟩ := h1
    exact (hold k _ (jws_get _ S hk)).2 (jA_in hD1 _ h2)⟩
  exact law_loop C (L + 1) 0 S M (by decide) (by show (0 : Int) ≤ (L : Int); omega) (by show (L : Int) + 1 ≤ 0 + ((L + 1 : Nat) : Int); omega) hR H1 locs ls (lv_sub hl [3, 2, 1, 0] rfl) hPc hPm hS
