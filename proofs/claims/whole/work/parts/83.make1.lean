/-! the constructors of the class's parts -/
abbrev wX4_init (cI : ClassId) (h0 : Nat) (u : Nat → Nat) : va_W := [(h0, .inr (4, [.ref (u 0), .ref (u 1), .ref (u 2), .ref (u 3), .int 0])), ((u 0), .inl (cI, 3, .inl (n10))), ((u 1), .inl (cI, 24, .inl (fun _ => 0))), ((u 2), .inl (cI, 8, .inl (fun _ => 0))), ((u 3), .inl (cI, 8, .inl (fun _ => 0)))]
set_option maxHeartbeats 4000000 in
set_option maxRecDepth 100000 in
theorem k_X4_init (l : Launch) (dC : Nat → ClassId) (dI : Nat → Nat → Nat) (cI cZ : ClassId) (h0 sz : Nat) : Met l yX4_init (.code yX4_init cX4_init 1 none :: lw_good) { frames := 1, cells := 4, slots := 43, locals := 20 } (va_Pc [.ref h0] (nW dC dI cI cZ sz [(h0, .inr (4, [.null, .null, .null, .null, .int 0]))])) (va_Qv (fun _ : Nat → Nat => True) (fun u t1 => va_P (dC, dI) vwCl (wX4_init cI h0 u) t1.heap ∧ va_D (va_A [(h0, .inr (4, [.null, .null, .null, .null, .int 0]))] sz) (wX4_init cI h0 u)) (va_A [(h0, .inr (4, [.null, .null, .null, .null, .int 0]))] sz)) 4 43 (va_A [(h0, .inr (4, [.null, .null, .null, .null, .int 0]))] sz) := by
  refine Met.ofW (cc := cX4_init) (maxL := 1) (ret := none) (by decide) rfl ?_
  intro p e s m args below meth c s₁ B hml hv
  obtain ⟨rfl, hsz, hP, hK, hD0⟩ := hv
  have hx := B.exec
  have hb := B.bytes
  have hr := B.returns
  have hts : ∀ w ∈ lw_good, w.before _ s = true := fun w hw => atoms_spec (ws := .code yX4_init cX4_init 1 none :: lw_good) B.pre w (List.mem_cons_of_mem _ hw)
  have hown : s.vm.findClass RX4 = some m.cls := findClass_of_methodNamed B.named
  have hlocks := B.notSynchronized
  have hin : meth.name = "<init>" := (name_of_methodNamed B.named B.method).1
  subst hsz
  have hD := hD0.self (sz := s.heap.size)
  generalize hAe : va_A [(h0, .inr (4, [.null, .null, .null, .null, .int 0]))] s.heap.size = A at hD ⊢
  have hA : ∀ q : Nat, s.heap.size ≤ q → A q := fun q h => by rw [← hAe]; exact Or.inr h
  have hS : va_S A s.heap s.heap [] := va_S.rf
  have hl := lv_entry ([.ref h0]) (n := 1) (Nat.le_of_ble_eq_true rfl)
  rw [lg_entry_eq]
  generalize (lg_sl ([.ref h0]) ++ List.replicate (1 - (lg_sl ([.ref h0])).length) Slot.unset).toArray = ls at hl ⊢
  have hl : lv_has ls 1 [(0, .ref h0)] := hl
  refine lv_aload_n hx hb dX4_init_0 rfl (lv_at hl 0 rfl) ?_
  refine W.objInit hx hb hown (hts _ ko_X4) (hts _ ko_im) (hts _ ko_code) rfl (by rw [hml]; exact hl.1) rfl dX4_init_1 (Nat.le_of_ble_eq_true rfl) (Nat.le_of_ble_eq_true rfl) ?_
  refine W.eq (g2 := F0 m 4 ls []) rfl ?_
  refine lv_aload_n hx hb dX4_init_4 rfl (lv_at hl 0 rfl) ?_
  refine lv_iconst (v := iI 3) hx hb dX4_init_5 rfl ?_
  refine n_newa (atype := .int) (ty := .int) (N' := 3) (a0 := (3, .inl (fun _ => 0))) hx hb (hts _ ka_int) rfl (Or.inl rfl) hK 0 rfl hP hD hS hA (fun _ => rfl) (by decide) (by decide) (by decide) (Nat.le_of_ble_eq_true rfl) (Nat.le_of_ble_eq_true rfl) dX4_init_6 (fun q6 H hP hD hS => ?_)
  refine W.widen (k := 1) (n := 3) (Nat.le_of_ble_eq_true rfl) (Nat.le_of_ble_eq_true rfl) ?_
  have hP : va_P (dC, dI) vwCl [(h0, .inr (4, [.null, .null, .null, .null, .int 0])), (q6, .inl (cI, 3, .inl (fun _ => 0)))] H := hP
  have hD : va_D A [(h0, .inr (4, [.null, .null, .null, .null, .int 0])), (q6, .inl (cI, 3, .inl (fun _ => 0)))] := hD
  refine lv_dup hx hb dX4_init_8 rfl ?_
  refine lv_iconst (v := iI 0) hx hb dX4_init_9 rfl ?_
  refine lv_bipush (v := iI 10) hx hb dX4_init_10 (by decide) ?_
  refine va_iast hx hb hK hP hD hS 1 0 rfl rfl (iI_in (by decide) (by decide) (by decide)) dX4_init_12 (fun H locs hP hD hS => ?_)
  have hP : va_P (dC, dI) vwCl [(h0, .inr (4, [.null, .null, .null, .null, .int 0])), (q6, .inl (cI, 3, .inl (upd (fun _ => 0) (iI 0).toNatClampNeg (iI 10))))] H := hP
  have hD : va_D A [(h0, .inr (4, [.null, .null, .null, .null, .int 0])), (q6, .inl (cI, 3, .inl (upd (fun _ => 0) (iI 0).toNatClampNeg (iI 10))))] := hD
  refine lv_dup hx hb dX4_init_13 rfl ?_
  refine lv_iconst (v := iI 1) hx hb dX4_init_14 rfl ?_
  refine lv_bipush (v := iI 10) hx hb dX4_init_15 (by decide) ?_
  refine va_iast hx hb hK hP hD hS 1 0 rfl rfl (iI_in (by decide) (by decide) (by decide)) dX4_init_17 (fun H locs hP hD hS => ?_)
  have hP : va_P (dC, dI) vwCl [(h0, .inr (4, [.null, .null, .null, .null, .int 0])), (q6, .inl (cI, 3, .inl (upd (upd (fun _ => 0) (iI 0).toNatClampNeg (iI 10)) (iI 1).toNatClampNeg (iI 10))))] H := hP
  have hD : va_D A [(h0, .inr (4, [.null, .null, .null, .null, .int 0])), (q6, .inl (cI, 3, .inl (upd (upd (fun _ => 0) (iI 0).toNatClampNeg (iI 10)) (iI 1).toNatClampNeg (iI 10))))] := hD
  refine lv_dup hx hb dX4_init_18 rfl ?_
  refine lv_iconst (v := iI 2) hx hb dX4_init_19 rfl ?_
  refine lv_bipush (v := iI 10) hx hb dX4_init_20 (by decide) ?_
  refine va_iast hx hb hK hP hD hS 1 0 rfl rfl (iI_in (by decide) (by decide) (by decide)) dX4_init_22 (fun H locs hP hD hS => ?_)
  have hP : va_P (dC, dI) vwCl [(h0, .inr (4, [.null, .null, .null, .null, .int 0])), (q6, .inl (cI, 3, .inl (upd (upd (upd (fun _ => 0) (iI 0).toNatClampNeg (iI 10)) (iI 1).toNatClampNeg (iI 10)) (iI 2).toNatClampNeg (iI 10))))] H := hP
  have hD : va_D A [(h0, .inr (4, [.null, .null, .null, .null, .int 0])), (q6, .inl (cI, 3, .inl (upd (upd (upd (fun _ => 0) (iI 0).toNatClampNeg (iI 10)) (iI 1).toNatClampNeg (iI 10)) (iI 2).toNatClampNeg (iI 10))))] := hD
  rw [n10_eq] at hP hD
  have hP : va_P (dC, dI) vwCl [(h0, .inr (4, [.null, .null, .null, .null, .int 0])), (q6, .inl (cI, 3, .inl (n10)))] H := hP
  have hD : va_D A [(h0, .inr (4, [.null, .null, .null, .null, .int 0])), (q6, .inl (cI, 3, .inl (n10)))] := hD
  refine va_putF (D := (dC, dI)) (ci := 4) (v := .ref q6) (ty := tyX4 0) (C := RX4) (T := TX4) (N := 5) hx hb hts ku_X4 tyX4 tyX4_ok nmX4 hown hK hP hD hS 0 rfl rfl 0 (by decide) (hts _ kf_X4_9) (fun _ h9 => h9) rfl hin rfl (tyX4_ok 0 (by decide)) rfl rfl (Nat.le_of_ble_eq_true rfl) dX4_init_23 (fun H locs hP hD hS => ?_)
  have hP : va_P (dC, dI) vwCl [(h0, .inr (4, [.ref q6, .null, .null, .null, .int 0])), (q6, .inl (cI, 3, .inl (n10)))] H := hP
  have hD : va_D A [(h0, .inr (4, [.ref q6, .null, .null, .null, .int 0])), (q6, .inl (cI, 3, .inl (n10)))] := hD
  refine lv_aload_n hx hb dX4_init_26 rfl (lv_at hl 0 rfl) ?_
  refine lv_bipush (v := iI 24) hx hb dX4_init_27 (by decide) ?_
  refine n_newa (atype := .int) (ty := .int) (N' := 24) (a0 := (24, .inl (fun _ => 0))) hx hb (hts _ ka_int) rfl (Or.inl rfl) hK 0 rfl hP hD hS hA (fun _ => rfl) (by decide) (by decide) (by decide) (Nat.le_of_ble_eq_true rfl) (Nat.le_of_ble_eq_true rfl) dX4_init_29 (fun q29 H hP hD hS => ?_)
  refine W.widen (k := 2) (n := 27) (Nat.le_of_ble_eq_true rfl) (Nat.le_of_ble_eq_true rfl) ?_
  have hP : va_P (dC, dI) vwCl [(h0, .inr (4, [.ref q6, .null, .null, .null, .int 0])), (q6, .inl (cI, 3, .inl (n10))), (q29, .inl (cI, 24, .inl (fun _ => 0)))] H := hP
  have hD : va_D A [(h0, .inr (4, [.ref q6, .null, .null, .null, .int 0])), (q6, .inl (cI, 3, .inl (n10))), (q29, .inl (cI, 24, .inl (fun _ => 0)))] := hD
  refine va_putF (D := (dC, dI)) (ci := 4) (v := .ref q29) (ty := tyX4 1) (C := RX4) (T := TX4) (N := 5) hx hb hts ku_X4 tyX4 tyX4_ok nmX4 hown hK hP hD hS 0 rfl rfl 1 (by decide) (hts _ kf_X4_15) (fun _ h9 => h9) rfl hin rfl (tyX4_ok 1 (by decide)) rfl rfl (Nat.le_of_ble_eq_true rfl) dX4_init_31 (fun H locs hP hD hS => ?_)
  have hP : va_P (dC, dI) vwCl [(h0, .inr (4, [.ref q6, .ref q29, .null, .null, .int 0])), (q6, .inl (cI, 3, .inl (n10))), (q29, .inl (cI, 24, .inl (fun _ => 0)))] H := hP
  have hD : va_D A [(h0, .inr (4, [.ref q6, .ref q29, .null, .null, .int 0])), (q6, .inl (cI, 3, .inl (n10))), (q29, .inl (cI, 24, .inl (fun _ => 0)))] := hD
  refine lv_aload_n hx hb dX4_init_34 rfl (lv_at hl 0 rfl) ?_
  refine lv_bipush (v := iI 8) hx hb dX4_init_35 (by decide) ?_
  refine n_newa (atype := .int) (ty := .int) (N' := 8) (a0 := (8, .inl (fun _ => 0))) hx hb (hts _ ka_int) rfl (Or.inl rfl) hK 0 rfl hP hD hS hA (fun _ => rfl) (by decide) (by decide) (by decide) (Nat.le_of_ble_eq_true rfl) (Nat.le_of_ble_eq_true rfl) dX4_init_37 (fun q37 H hP hD hS => ?_)
  refine W.widen (k := 3) (n := 35) (Nat.le_of_ble_eq_true rfl) (Nat.le_of_ble_eq_true rfl) ?_
  have hP : va_P (dC, dI) vwCl [(h0, .inr (4, [.ref q6, .ref q29, .null, .null, .int 0])), (q6, .inl (cI, 3, .inl (n10))), (q29, .inl (cI, 24, .inl (fun _ => 0))), (q37, .inl (cI, 8, .inl (fun _ => 0)))] H := hP
  have hD : va_D A [(h0, .inr (4, [.ref q6, .ref q29, .null, .null, .int 0])), (q6, .inl (cI, 3, .inl (n10))), (q29, .inl (cI, 24, .inl (fun _ => 0))), (q37, .inl (cI, 8, .inl (fun _ => 0)))] := hD
  refine va_putF (D := (dC, dI)) (ci := 4) (v := .ref q37) (ty := tyX4 2) (C := RX4) (T := TX4) (N := 5) hx hb hts ku_X4 tyX4 tyX4_ok nmX4 hown hK hP hD hS 0 rfl rfl 2 (by decide) (hts _ kf_X4_18) (fun _ h9 => h9) rfl hin rfl (tyX4_ok 2 (by decide)) rfl rfl (Nat.le_of_ble_eq_true rfl) dX4_init_39 (fun H locs hP hD hS => ?_)
  have hP : va_P (dC, dI) vwCl [(h0, .inr (4, [.ref q6, .ref q29, .ref q37, .null, .int 0])), (q6, .inl (cI, 3, .inl (n10))), (q29, .inl (cI, 24, .inl (fun _ => 0))), (q37, .inl (cI, 8, .inl (fun _ => 0)))] H := hP
  have hD : va_D A [(h0, .inr (4, [.ref q6, .ref q29, .ref q37, .null, .int 0])), (q6, .inl (cI, 3, .inl (n10))), (q29, .inl (cI, 24, .inl (fun _ => 0))), (q37, .inl (cI, 8, .inl (fun _ => 0)))] := hD
  refine lv_aload_n hx hb dX4_init_42 rfl (lv_at hl 0 rfl) ?_
  refine lv_bipush (v := iI 8) hx hb dX4_init_43 (by decide) ?_
  refine n_newa (atype := .int) (ty := .int) (N' := 8) (a0 := (8, .inl (fun _ => 0))) hx hb (hts _ ka_int) rfl (Or.inl rfl) hK 0 rfl hP hD hS hA (fun _ => rfl) (by decide) (by decide) (by decide) (Nat.le_of_ble_eq_true rfl) (Nat.le_of_ble_eq_true rfl) dX4_init_45 (fun q45 H hP hD hS => ?_)
  refine W.widen (k := 4) (n := 43) (Nat.le_of_ble_eq_true rfl) (Nat.le_of_ble_eq_true rfl) ?_
  have hP : va_P (dC, dI) vwCl [(h0, .inr (4, [.ref q6, .ref q29, .ref q37, .null, .int 0])), (q6, .inl (cI, 3, .inl (n10))), (q29, .inl (cI, 24, .inl (fun _ => 0))), (q37, .inl (cI, 8, .inl (fun _ => 0))), (q45, .inl (cI, 8, .inl (fun _ => 0)))] H := hP
  have hD : va_D A [(h0, .inr (4, [.ref q6, .ref q29, .ref q37, .null, .int 0])), (q6, .inl (cI, 3, .inl (n10))), (q29, .inl (cI, 24, .inl (fun _ => 0))), (q37, .inl (cI, 8, .inl (fun _ => 0))), (q45, .inl (cI, 8, .inl (fun _ => 0)))] := hD
  refine va_putF (D := (dC, dI)) (ci := 4) (v := .ref q45) (ty := tyX4 3) (C := RX4) (T := TX4) (N := 5) hx hb hts ku_X4 tyX4 tyX4_ok nmX4 hown hK hP hD hS 0 rfl rfl 3 (by decide) (hts _ kf_X4_21) (fun _ h9 => h9) rfl hin rfl (tyX4_ok 3 (by decide)) rfl rfl (Nat.le_of_ble_eq_true rfl) dX4_init_47 (fun H locs hP hD hS => ?_)
  have hP : va_P (dC, dI) vwCl [(h0, .inr (4, [.ref q6, .ref q29, .ref q37, .ref q45, .int 0])), (q6, .inl (cI, 3, .inl (n10))), (q29, .inl (cI, 24, .inl (fun _ => 0))), (q37, .inl (cI, 8, .inl (fun _ => 0))), (q45, .inl (cI, 8, .inl (fun _ => 0)))] H := hP
  have hD : va_D A [(h0, .inr (4, [.ref q6, .ref q29, .ref q37, .ref q45, .int 0])), (q6, .inl (cI, 3, .inl (n10))), (q29, .inl (cI, 24, .inl (fun _ => 0))), (q37, .inl (cI, 8, .inl (fun _ => 0))), (q45, .inl (cI, 8, .inl (fun _ => 0)))] := hD
  exact W.vret hx hb hr (fun t1 ht hW => ⟨⟨fun k => ([q6, q29, q37, q45] : List Nat).getD k 0, rfl, trivial, by rw [ht]; exact hP, hD⟩, hS.F ht⟩) hS.2.2 dX4_init_50
abbrev wX3_init (cI : ClassId) (h0 p0 : Nat) (u : Nat → Nat) : va_W := [(h0, .inr (3, [.ref p0, .ref (u 0), .ref (u 1), .ref (u 2), .ref (u 3), .ref (u 4), .ref (u 5), .ref (u 6), .ref (u 7), .ref (u 8), .ref (u 9), .ref (u 10), .int 0, .int 0, .int 0, .int 0])), ((u 0), .inl (cI, 8, .inl (fun _ => 0))), ((u 1), .inl (cI, 24, .inl (fun _ => 0))), ((u 2), .inl (cI, 8, .inl (fun _ => 0))), ((u 3), .inl (cI, 24, .inl (fun _ => 0))), ((u 4), .inl (cI, 24, .inl (fun _ => 0))), ((u 5), .inl (cI, 24, .inl (fun _ => 0))), ((u 6), .inl (cI, 24, .inl (fun _ => 0))), ((u 7), .inl (cI, 8, .inl (fun _ => 0))), ((u 8), .inl (cI, 8, .inl (fun _ => 0))), ((u 9), .inl (cI, 8, .inl (fun _ => 0))), ((u 10), .inl (cI, 8, .inl (fun _ => 0)))]
set_option maxHeartbeats 4000000 in
set_option maxRecDepth 100000 in
theorem k_X3_init (l : Launch) (dC : Nat → ClassId) (dI : Nat → Nat → Nat) (cI cZ : ClassId) (h0 p0 sz : Nat) : Met l yX3_init (.code yX3_init cX3_init 2 none :: lw_good) { frames := 1, cells := 11, slots := 168, locals := 20 } (va_Pc [.ref h0, .ref p0] (nW dC dI cI cZ sz [(h0, .inr (3, [.null, .null, .null, .null, .null, .null, .null, .null, .null, .null, .null, .null, .int 0, .int 0, .int 0, .int 0]))])) (va_Qv (fun _ : Nat → Nat => True) (fun u t1 => va_P (dC, dI) vwCl (wX3_init cI h0 p0 u) t1.heap ∧ va_D (va_A [(h0, .inr (3, [.null, .null, .null, .null, .null, .null, .null, .null, .null, .null, .null, .null, .int 0, .int 0, .int 0, .int 0]))] sz) (wX3_init cI h0 p0 u)) (va_A [(h0, .inr (3, [.null, .null, .null, .null, .null, .null, .null, .null, .null, .null, .null, .null, .int 0, .int 0, .int 0, .int 0]))] sz)) 11 168 (va_A [(h0, .inr (3, [.null, .null, .null, .null, .null, .null, .null, .null, .null, .null, .null, .null, .int 0, .int 0, .int 0, .int 0]))] sz) := by
  refine Met.ofW (cc := cX3_init) (maxL := 2) (ret := none) (by decide) rfl ?_
  intro p e s m args below meth c s₁ B hml hv
  obtain ⟨rfl, hsz, hP, hK, hD0⟩ := hv
  have hx := B.exec
  have hb := B.bytes
  have hr := B.returns
  have hts : ∀ w ∈ lw_good, w.before _ s = true := fun w hw => atoms_spec (ws := .code yX3_init cX3_init 2 none :: lw_good) B.pre w (List.mem_cons_of_mem _ hw)
  have hown : s.vm.findClass RX3 = some m.cls := findClass_of_methodNamed B.named
  have hlocks := B.notSynchronized
  have hin : meth.name = "<init>" := (name_of_methodNamed B.named B.method).1
  subst hsz
  have hD := hD0.self (sz := s.heap.size)
  generalize hAe : va_A [(h0, .inr (3, [.null, .null, .null, .null, .null, .null, .null, .null, .null, .null, .null, .null, .int 0, .int 0, .int 0, .int 0]))] s.heap.size = A at hD ⊢
  have hA : ∀ q : Nat, s.heap.size ≤ q → A q := fun q h => by rw [← hAe]; exact Or.inr h
  have hS : va_S A s.heap s.heap [] := va_S.rf
  have hl := lv_entry ([.ref h0, .ref p0]) (n := 2) (Nat.le_of_ble_eq_true rfl)
  rw [lg_entry_eq]
  generalize (lg_sl ([.ref h0, .ref p0]) ++ List.replicate (2 - (lg_sl ([.ref h0, .ref p0])).length) Slot.unset).toArray = ls at hl ⊢
  have hl : lv_has ls 2 [(0, .ref h0), (1, .ref p0)] := hl
  refine lv_aload_n hx hb dX3_init_0 rfl (lv_at hl 0 rfl) ?_
  refine W.objInit hx hb hown (hts _ ko_X3) (hts _ ko_im) (hts _ ko_code) rfl (by rw [hml]; exact hl.1) rfl dX3_init_1 (Nat.le_of_ble_eq_true rfl) (Nat.le_of_ble_eq_true rfl) ?_
  refine W.eq (g2 := F0 m 4 ls []) rfl ?_
  refine lv_aload_n hx hb dX3_init_4 rfl (lv_at hl 0 rfl) ?_
  refine lv_bipush (v := iI 8) hx hb dX3_init_5 (by decide) ?_
  refine n_newa (atype := .int) (ty := .int) (N' := 8) (a0 := (8, .inl (fun _ => 0))) hx hb (hts _ ka_int) rfl (Or.inl rfl) hK 0 rfl hP hD hS hA (fun _ => rfl) (by decide) (by decide) (by decide) (Nat.le_of_ble_eq_true rfl) (Nat.le_of_ble_eq_true rfl) dX3_init_7 (fun q7 H hP hD hS => ?_)
  refine W.widen (k := 1) (n := 8) (Nat.le_of_ble_eq_true rfl) (Nat.le_of_ble_eq_true rfl) ?_
  have hP : va_P (dC, dI) vwCl [(h0, .inr (3, [.null, .null, .null, .null, .null, .null, .null, .null, .null, .null, .null, .null, .int 0, .int 0, .int 0, .int 0])), (q7, .inl (cI, 8, .inl (fun _ => 0)))] H := hP
  have hD : va_D A [(h0, .inr (3, [.null, .null, .null, .null, .null, .null, .null, .null, .null, .null, .null, .null, .int 0, .int 0, .int 0, .int 0])), (q7, .inl (cI, 8, .inl (fun _ => 0)))] := hD
  refine va_putF (D := (dC, dI)) (ci := 3) (v := .ref q7) (ty := tyX3 1) (C := RX3) (T := TX3) (N := 16) hx hb hts ku_X3 tyX3 tyX3_ok nmX3 hown hK hP hD hS 0 rfl rfl 1 (by decide) (hts _ kf_X3_9) (fun _ h9 => h9) rfl hin rfl (tyX3_ok 1 (by decide)) rfl rfl (Nat.le_of_ble_eq_true rfl) dX3_init_9 (fun H locs hP hD hS => ?_)
  have hP : va_P (dC, dI) vwCl [(h0, .inr (3, [.null, .ref q7, .null, .null, .null, .null, .null, .null, .null, .null, .null, .null, .int 0, .int 0, .int 0, .int 0])), (q7, .inl (cI, 8, .inl (fun _ => 0)))] H := hP
  have hD : va_D A [(h0, .inr (3, [.null, .ref q7, .null, .null, .null, .null, .null, .null, .null, .null, .null, .null, .int 0, .int 0, .int 0, .int 0])), (q7, .inl (cI, 8, .inl (fun _ => 0)))] := hD
  refine lv_aload_n hx hb dX3_init_12 rfl (lv_at hl 0 rfl) ?_
  refine lv_bipush (v := iI 24) hx hb dX3_init_13 (by decide) ?_
  refine n_newa (atype := .int) (ty := .int) (N' := 24) (a0 := (24, .inl (fun _ => 0))) hx hb (hts _ ka_int) rfl (Or.inl rfl) hK 0 rfl hP hD hS hA (fun _ => rfl) (by decide) (by decide) (by decide) (Nat.le_of_ble_eq_true rfl) (Nat.le_of_ble_eq_true rfl) dX3_init_15 (fun q15 H hP hD hS => ?_)
  refine W.widen (k := 2) (n := 32) (Nat.le_of_ble_eq_true rfl) (Nat.le_of_ble_eq_true rfl) ?_
  have hP : va_P (dC, dI) vwCl [(h0, .inr (3, [.null, .ref q7, .null, .null, .null, .null, .null, .null, .null, .null, .null, .null, .int 0, .int 0, .int 0, .int 0])), (q7, .inl (cI, 8, .inl (fun _ => 0))), (q15, .inl (cI, 24, .inl (fun _ => 0)))] H := hP
  have hD : va_D A [(h0, .inr (3, [.null, .ref q7, .null, .null, .null, .null, .null, .null, .null, .null, .null, .null, .int 0, .int 0, .int 0, .int 0])), (q7, .inl (cI, 8, .inl (fun _ => 0))), (q15, .inl (cI, 24, .inl (fun _ => 0)))] := hD
  refine va_putF (D := (dC, dI)) (ci := 3) (v := .ref q15) (ty := tyX3 2) (C := RX3) (T := TX3) (N := 16) hx hb hts ku_X3 tyX3 tyX3_ok nmX3 hown hK hP hD hS 0 rfl rfl 2 (by decide) (hts _ kf_X3_15) (fun _ h9 => h9) rfl hin rfl (tyX3_ok 2 (by decide)) rfl rfl (Nat.le_of_ble_eq_true rfl) dX3_init_17 (fun H locs hP hD hS => ?_)
  have hP : va_P (dC, dI) vwCl [(h0, .inr (3, [.null, .ref q7, .ref q15, .null, .null, .null, .null, .null, .null, .null, .null, .null, .int 0, .int 0, .int 0, .int 0])), (q7, .inl (cI, 8, .inl (fun _ => 0))), (q15, .inl (cI, 24, .inl (fun _ => 0)))] H := hP
  have hD : va_D A [(h0, .inr (3, [.null, .ref q7, .ref q15, .null, .null, .null, .null, .null, .null, .null, .null, .null, .int 0, .int 0, .int 0, .int 0])), (q7, .inl (cI, 8, .inl (fun _ => 0))), (q15, .inl (cI, 24, .inl (fun _ => 0)))] := hD
  refine lv_aload_n hx hb dX3_init_20 rfl (lv_at hl 0 rfl) ?_
  refine lv_bipush (v := iI 8) hx hb dX3_init_21 (by decide) ?_
  refine n_newa (atype := .int) (ty := .int) (N' := 8) (a0 := (8, .inl (fun _ => 0))) hx hb (hts _ ka_int) rfl (Or.inl rfl) hK 0 rfl hP hD hS hA (fun _ => rfl) (by decide) (by decide) (by decide) (Nat.le_of_ble_eq_true rfl) (Nat.le_of_ble_eq_true rfl) dX3_init_23 (fun q23 H hP hD hS => ?_)
  refine W.widen (k := 3) (n := 40) (Nat.le_of_ble_eq_true rfl) (Nat.le_of_ble_eq_true rfl) ?_
  have hP : va_P (dC, dI) vwCl [(h0, .inr (3, [.null, .ref q7, .ref q15, .null, .null, .null, .null, .null, .null, .null, .null, .null, .int 0, .int 0, .int 0, .int 0])), (q7, .inl (cI, 8, .inl (fun _ => 0))), (q15, .inl (cI, 24, .inl (fun _ => 0))), (q23, .inl (cI, 8, .inl (fun _ => 0)))] H := hP
  have hD : va_D A [(h0, .inr (3, [.null, .ref q7, .ref q15, .null, .null, .null, .null, .null, .null, .null, .null, .null, .int 0, .int 0, .int 0, .int 0])), (q7, .inl (cI, 8, .inl (fun _ => 0))), (q15, .inl (cI, 24, .inl (fun _ => 0))), (q23, .inl (cI, 8, .inl (fun _ => 0)))] := hD
  refine va_putF (D := (dC, dI)) (ci := 3) (v := .ref q23) (ty := tyX3 3) (C := RX3) (T := TX3) (N := 16) hx hb hts ku_X3 tyX3 tyX3_ok nmX3 hown hK hP hD hS 0 rfl rfl 3 (by decide) (hts _ kf_X3_18) (fun _ h9 => h9) rfl hin rfl (tyX3_ok 3 (by decide)) rfl rfl (Nat.le_of_ble_eq_true rfl) dX3_init_25 (fun H locs hP hD hS => ?_)
  have hP : va_P (dC, dI) vwCl [(h0, .inr (3, [.null, .ref q7, .ref q15, .ref q23, .null, .null, .null, .null, .null, .null, .null, .null, .int 0, .int 0, .int 0, .int 0])), (q7, .inl (cI, 8, .inl (fun _ => 0))), (q15, .inl (cI, 24, .inl (fun _ => 0))), (q23, .inl (cI, 8, .inl (fun _ => 0)))] H := hP
  have hD : va_D A [(h0, .inr (3, [.null, .ref q7, .ref q15, .ref q23, .null, .null, .null, .null, .null, .null, .null, .null, .int 0, .int 0, .int 0, .int 0])), (q7, .inl (cI, 8, .inl (fun _ => 0))), (q15, .inl (cI, 24, .inl (fun _ => 0))), (q23, .inl (cI, 8, .inl (fun _ => 0)))] := hD
  refine lv_aload_n hx hb dX3_init_28 rfl (lv_at hl 0 rfl) ?_
  refine lv_bipush (v := iI 24) hx hb dX3_init_29 (by decide) ?_
  refine n_newa (atype := .int) (ty := .int) (N' := 24) (a0 := (24, .inl (fun _ => 0))) hx hb (hts _ ka_int) rfl (Or.inl rfl) hK 0 rfl hP hD hS hA (fun _ => rfl) (by decide) (by decide) (by decide) (Nat.le_of_ble_eq_true rfl) (Nat.le_of_ble_eq_true rfl) dX3_init_31 (fun q31 H hP hD hS => ?_)
  refine W.widen (k := 4) (n := 64) (Nat.le_of_ble_eq_true rfl) (Nat.le_of_ble_eq_true rfl) ?_
  have hP : va_P (dC, dI) vwCl [(h0, .inr (3, [.null, .ref q7, .ref q15, .ref q23, .null, .null, .null, .null, .null, .null, .null, .null, .int 0, .int 0, .int 0, .int 0])), (q7, .inl (cI, 8, .inl (fun _ => 0))), (q15, .inl (cI, 24, .inl (fun _ => 0))), (q23, .inl (cI, 8, .inl (fun _ => 0))), (q31, .inl (cI, 24, .inl (fun _ => 0)))] H := hP
  have hD : va_D A [(h0, .inr (3, [.null, .ref q7, .ref q15, .ref q23, .null, .null, .null, .null, .null, .null, .null, .null, .int 0, .int 0, .int 0, .int 0])), (q7, .inl (cI, 8, .inl (fun _ => 0))), (q15, .inl (cI, 24, .inl (fun _ => 0))), (q23, .inl (cI, 8, .inl (fun _ => 0))), (q31, .inl (cI, 24, .inl (fun _ => 0)))] := hD
  refine va_putF (D := (dC, dI)) (ci := 3) (v := .ref q31) (ty := tyX3 4) (C := RX3) (T := TX3) (N := 16) hx hb hts ku_X3 tyX3 tyX3_ok nmX3 hown hK hP hD hS 0 rfl rfl 4 (by decide) (hts _ kf_X3_21) (fun _ h9 => h9) rfl hin rfl (tyX3_ok 4 (by decide)) rfl rfl (Nat.le_of_ble_eq_true rfl) dX3_init_33 (fun H locs hP hD hS => ?_)
  have hP : va_P (dC, dI) vwCl [(h0, .inr (3, [.null, .ref q7, .ref q15, .ref q23, .ref q31, .null, .null, .null, .null, .null, .null, .null, .int 0, .int 0, .int 0, .int 0])), (q7, .inl (cI, 8, .inl (fun _ => 0))), (q15, .inl (cI, 24, .inl (fun _ => 0))), (q23, .inl (cI, 8, .inl (fun _ => 0))), (q31, .inl (cI, 24, .inl (fun _ => 0)))] H := hP
  have hD : va_D A [(h0, .inr (3, [.null, .ref q7, .ref q15, .ref q23, .ref q31, .null, .null, .null, .null, .null, .null, .null, .int 0, .int 0, .int 0, .int 0])), (q7, .inl (cI, 8, .inl (fun _ => 0))), (q15, .inl (cI, 24, .inl (fun _ => 0))), (q23, .inl (cI, 8, .inl (fun _ => 0))), (q31, .inl (cI, 24, .inl (fun _ => 0)))] := hD
  refine lv_aload_n hx hb dX3_init_36 rfl (lv_at hl 0 rfl) ?_
  refine lv_bipush (v := iI 24) hx hb dX3_init_37 (by decide) ?_
  refine n_newa (atype := .int) (ty := .int) (N' := 24) (a0 := (24, .inl (fun _ => 0))) hx hb (hts _ ka_int) rfl (Or.inl rfl) hK 0 rfl hP hD hS hA (fun _ => rfl) (by decide) (by decide) (by decide) (Nat.le_of_ble_eq_true rfl) (Nat.le_of_ble_eq_true rfl) dX3_init_39 (fun q39 H hP hD hS => ?_)
  refine W.widen (k := 5) (n := 88) (Nat.le_of_ble_eq_true rfl) (Nat.le_of_ble_eq_true rfl) ?_
  have hP : va_P (dC, dI) vwCl [(h0, .inr (3, [.null, .ref q7, .ref q15, .ref q23, .ref q31, .null, .null, .null, .null, .null, .null, .null, .int 0, .int 0, .int 0, .int 0])), (q7, .inl (cI, 8, .inl (fun _ => 0))), (q15, .inl (cI, 24, .inl (fun _ => 0))), (q23, .inl (cI, 8, .inl (fun _ => 0))), (q31, .inl (cI, 24, .inl (fun _ => 0))), (q39, .inl (cI, 24, .inl (fun _ => 0)))] H := hP
  have hD : va_D A [(h0, .inr (3, [.null, .ref q7, .ref q15, .ref q23, .ref q31, .null, .null, .null, .null, .null, .null, .null, .int 0, .int 0, .int 0, .int 0])), (q7, .inl (cI, 8, .inl (fun _ => 0))), (q15, .inl (cI, 24, .inl (fun _ => 0))), (q23, .inl (cI, 8, .inl (fun _ => 0))), (q31, .inl (cI, 24, .inl (fun _ => 0))), (q39, .inl (cI, 24, .inl (fun _ => 0)))] := hD
  refine va_putF (D := (dC, dI)) (ci := 3) (v := .ref q39) (ty := tyX3 5) (C := RX3) (T := TX3) (N := 16) hx hb hts ku_X3 tyX3 tyX3_ok nmX3 hown hK hP hD hS 0 rfl rfl 5 (by decide) (hts _ kf_X3_24) (fun _ h9 => h9) rfl hin rfl (tyX3_ok 5 (by decide)) rfl rfl (Nat.le_of_ble_eq_true rfl) dX3_init_41 (fun H locs hP hD hS => ?_)
  have hP : va_P (dC, dI) vwCl [(h0, .inr (3, [.null, .ref q7, .ref q15, .ref q23, .ref q31, .ref q39, .null, .null, .null, .null, .null, .null, .int 0, .int 0, .int 0, .int 0])), (q7, .inl (cI, 8, .inl (fun _ => 0))), (q15, .inl (cI, 24, .inl (fun _ => 0))), (q23, .inl (cI, 8, .inl (fun _ => 0))), (q31, .inl (cI, 24, .inl (fun _ => 0))), (q39, .inl (cI, 24, .inl (fun _ => 0)))] H := hP
  have hD : va_D A [(h0, .inr (3, [.null, .ref q7, .ref q15, .ref q23, .ref q31, .ref q39, .null, .null, .null, .null, .null, .null, .int 0, .int 0, .int 0, .int 0])), (q7, .inl (cI, 8, .inl (fun _ => 0))), (q15, .inl (cI, 24, .inl (fun _ => 0))), (q23, .inl (cI, 8, .inl (fun _ => 0))), (q31, .inl (cI, 24, .inl (fun _ => 0))), (q39, .inl (cI, 24, .inl (fun _ => 0)))] := hD
  refine lv_aload_n hx hb dX3_init_44 rfl (lv_at hl 0 rfl) ?_
  refine lv_bipush (v := iI 24) hx hb dX3_init_45 (by decide) ?_
  refine n_newa (atype := .int) (ty := .int) (N' := 24) (a0 := (24, .inl (fun _ => 0))) hx hb (hts _ ka_int) rfl (Or.inl rfl) hK 0 rfl hP hD hS hA (fun _ => rfl) (by decide) (by decide) (by decide) (Nat.le_of_ble_eq_true rfl) (Nat.le_of_ble_eq_true rfl) dX3_init_47 (fun q47 H hP hD hS => ?_)
  refine W.widen (k := 6) (n := 112) (Nat.le_of_ble_eq_true rfl) (Nat.le_of_ble_eq_true rfl) ?_
  have hP : va_P (dC, dI) vwCl [(h0, .inr (3, [.null, .ref q7, .ref q15, .ref q23, .ref q31, .ref q39, .null, .null, .null, .null, .null, .null, .int 0, .int 0, .int 0, .int 0])), (q7, .inl (cI, 8, .inl (fun _ => 0))), (q15, .inl (cI, 24, .inl (fun _ => 0))), (q23, .inl (cI, 8, .inl (fun _ => 0))), (q31, .inl (cI, 24, .inl (fun _ => 0))), (q39, .inl (cI, 24, .inl (fun _ => 0))), (q47, .inl (cI, 24, .inl (fun _ => 0)))] H := hP
  have hD : va_D A [(h0, .inr (3, [.null, .ref q7, .ref q15, .ref q23, .ref q31, .ref q39, .null, .null, .null, .null, .null, .null, .int 0, .int 0, .int 0, .int 0])), (q7, .inl (cI, 8, .inl (fun _ => 0))), (q15, .inl (cI, 24, .inl (fun _ => 0))), (q23, .inl (cI, 8, .inl (fun _ => 0))), (q31, .inl (cI, 24, .inl (fun _ => 0))), (q39, .inl (cI, 24, .inl (fun _ => 0))), (q47, .inl (cI, 24, .inl (fun _ => 0)))] := hD
  refine va_putF (D := (dC, dI)) (ci := 3) (v := .ref q47) (ty := tyX3 6) (C := RX3) (T := TX3) (N := 16) hx hb hts ku_X3 tyX3 tyX3_ok nmX3 hown hK hP hD hS 0 rfl rfl 6 (by decide) (hts _ kf_X3_27) (fun _ h9 => h9) rfl hin rfl (tyX3_ok 6 (by decide)) rfl rfl (Nat.le_of_ble_eq_true rfl) dX3_init_49 (fun H locs hP hD hS => ?_)
  have hP : va_P (dC, dI) vwCl [(h0, .inr (3, [.null, .ref q7, .ref q15, .ref q23, .ref q31, .ref q39, .ref q47, .null, .null, .null, .null, .null, .int 0, .int 0, .int 0, .int 0])), (q7, .inl (cI, 8, .inl (fun _ => 0))), (q15, .inl (cI, 24, .inl (fun _ => 0))), (q23, .inl (cI, 8, .inl (fun _ => 0))), (q31, .inl (cI, 24, .inl (fun _ => 0))), (q39, .inl (cI, 24, .inl (fun _ => 0))), (q47, .inl (cI, 24, .inl (fun _ => 0)))] H := hP
  have hD : va_D A [(h0, .inr (3, [.null, .ref q7, .ref q15, .ref q23, .ref q31, .ref q39, .ref q47, .null, .null, .null, .null, .null, .int 0, .int 0, .int 0, .int 0])), (q7, .inl (cI, 8, .inl (fun _ => 0))), (q15, .inl (cI, 24, .inl (fun _ => 0))), (q23, .inl (cI, 8, .inl (fun _ => 0))), (q31, .inl (cI, 24, .inl (fun _ => 0))), (q39, .inl (cI, 24, .inl (fun _ => 0))), (q47, .inl (cI, 24, .inl (fun _ => 0)))] := hD
  refine lv_aload_n hx hb dX3_init_52 rfl (lv_at hl 0 rfl) ?_
  refine lv_bipush (v := iI 24) hx hb dX3_init_53 (by decide) ?_
  refine n_newa (atype := .int) (ty := .int) (N' := 24) (a0 := (24, .inl (fun _ => 0))) hx hb (hts _ ka_int) rfl (Or.inl rfl) hK 0 rfl hP hD hS hA (fun _ => rfl) (by decide) (by decide) (by decide) (Nat.le_of_ble_eq_true rfl) (Nat.le_of_ble_eq_true rfl) dX3_init_55 (fun q55 H hP hD hS => ?_)
  refine W.widen (k := 7) (n := 136) (Nat.le_of_ble_eq_true rfl) (Nat.le_of_ble_eq_true rfl) ?_
  have hP : va_P (dC, dI) vwCl [(h0, .inr (3, [.null, .ref q7, .ref q15, .ref q23, .ref q31, .ref q39, .ref q47, .null, .null, .null, .null, .null, .int 0, .int 0, .int 0, .int 0])), (q7, .inl (cI, 8, .inl (fun _ => 0))), (q15, .inl (cI, 24, .inl (fun _ => 0))), (q23, .inl (cI, 8, .inl (fun _ => 0))), (q31, .inl (cI, 24, .inl (fun _ => 0))), (q39, .inl (cI, 24, .inl (fun _ => 0))), (q47, .inl (cI, 24, .inl (fun _ => 0))), (q55, .inl (cI, 24, .inl (fun _ => 0)))] H := hP
  have hD : va_D A [(h0, .inr (3, [.null, .ref q7, .ref q15, .ref q23, .ref q31, .ref q39, .ref q47, .null, .null, .null, .null, .null, .int 0, .int 0, .int 0, .int 0])), (q7, .inl (cI, 8, .inl (fun _ => 0))), (q15, .inl (cI, 24, .inl (fun _ => 0))), (q23, .inl (cI, 8, .inl (fun _ => 0))), (q31, .inl (cI, 24, .inl (fun _ => 0))), (q39, .inl (cI, 24, .inl (fun _ => 0))), (q47, .inl (cI, 24, .inl (fun _ => 0))), (q55, .inl (cI, 24, .inl (fun _ => 0)))] := hD
  refine va_putF (D := (dC, dI)) (ci := 3) (v := .ref q55) (ty := tyX3 7) (C := RX3) (T := TX3) (N := 16) hx hb hts ku_X3 tyX3 tyX3_ok nmX3 hown hK hP hD hS 0 rfl rfl 7 (by decide) (hts _ kf_X3_30) (fun _ h9 => h9) rfl hin rfl (tyX3_ok 7 (by decide)) rfl rfl (Nat.le_of_ble_eq_true rfl) dX3_init_57 (fun H locs hP hD hS => ?_)
  have hP : va_P (dC, dI) vwCl [(h0, .inr (3, [.null, .ref q7, .ref q15, .ref q23, .ref q31, .ref q39, .ref q47, .ref q55, .null, .null, .null, .null, .int 0, .int 0, .int 0, .int 0])), (q7, .inl (cI, 8, .inl (fun _ => 0))), (q15, .inl (cI, 24, .inl (fun _ => 0))), (q23, .inl (cI, 8, .inl (fun _ => 0))), (q31, .inl (cI, 24, .inl (fun _ => 0))), (q39, .inl (cI, 24, .inl (fun _ => 0))), (q47, .inl (cI, 24, .inl (fun _ => 0))), (q55, .inl (cI, 24, .inl (fun _ => 0)))] H := hP
  have hD : va_D A [(h0, .inr (3, [.null, .ref q7, .ref q15, .ref q23, .ref q31, .ref q39, .ref q47, .ref q55, .null, .null, .null, .null, .int 0, .int 0, .int 0, .int 0])), (q7, .inl (cI, 8, .inl (fun _ => 0))), (q15, .inl (cI, 24, .inl (fun _ => 0))), (q23, .inl (cI, 8, .inl (fun _ => 0))), (q31, .inl (cI, 24, .inl (fun _ => 0))), (q39, .inl (cI, 24, .inl (fun _ => 0))), (q47, .inl (cI, 24, .inl (fun _ => 0))), (q55, .inl (cI, 24, .inl (fun _ => 0)))] := hD
  refine lv_aload_n hx hb dX3_init_60 rfl (lv_at hl 0 rfl) ?_
  refine lv_bipush (v := iI 8) hx hb dX3_init_61 (by decide) ?_
  refine n_newa (atype := .int) (ty := .int) (N' := 8) (a0 := (8, .inl (fun _ => 0))) hx hb (hts _ ka_int) rfl (Or.inl rfl) hK 0 rfl hP hD hS hA (fun _ => rfl) (by decide) (by decide) (by decide) (Nat.le_of_ble_eq_true rfl) (Nat.le_of_ble_eq_true rfl) dX3_init_63 (fun q63 H hP hD hS => ?_)
  refine W.widen (k := 8) (n := 144) (Nat.le_of_ble_eq_true rfl) (Nat.le_of_ble_eq_true rfl) ?_
  have hP : va_P (dC, dI) vwCl [(h0, .inr (3, [.null, .ref q7, .ref q15, .ref q23, .ref q31, .ref q39, .ref q47, .ref q55, .null, .null, .null, .null, .int 0, .int 0, .int 0, .int 0])), (q7, .inl (cI, 8, .inl (fun _ => 0))), (q15, .inl (cI, 24, .inl (fun _ => 0))), (q23, .inl (cI, 8, .inl (fun _ => 0))), (q31, .inl (cI, 24, .inl (fun _ => 0))), (q39, .inl (cI, 24, .inl (fun _ => 0))), (q47, .inl (cI, 24, .inl (fun _ => 0))), (q55, .inl (cI, 24, .inl (fun _ => 0))), (q63, .inl (cI, 8, .inl (fun _ => 0)))] H := hP
  have hD : va_D A [(h0, .inr (3, [.null, .ref q7, .ref q15, .ref q23, .ref q31, .ref q39, .ref q47, .ref q55, .null, .null, .null, .null, .int 0, .int 0, .int 0, .int 0])), (q7, .inl (cI, 8, .inl (fun _ => 0))), (q15, .inl (cI, 24, .inl (fun _ => 0))), (q23, .inl (cI, 8, .inl (fun _ => 0))), (q31, .inl (cI, 24, .inl (fun _ => 0))), (q39, .inl (cI, 24, .inl (fun _ => 0))), (q47, .inl (cI, 24, .inl (fun _ => 0))), (q55, .inl (cI, 24, .inl (fun _ => 0))), (q63, .inl (cI, 8, .inl (fun _ => 0)))] := hD
  refine va_putF (D := (dC, dI)) (ci := 3) (v := .ref q63) (ty := tyX3 8) (C := RX3) (T := TX3) (N := 16) hx hb hts ku_X3 tyX3 tyX3_ok nmX3 hown hK hP hD hS 0 rfl rfl 8 (by decide) (hts _ kf_X3_33) (fun _ h9 => h9) rfl hin rfl (tyX3_ok 8 (by decide)) rfl rfl (Nat.le_of_ble_eq_true rfl) dX3_init_65 (fun H locs hP hD hS => ?_)
  have hP : va_P (dC, dI) vwCl [(h0, .inr (3, [.null, .ref q7, .ref q15, .ref q23, .ref q31, .ref q39, .ref q47, .ref q55, .ref q63, .null, .null, .null, .int 0, .int 0, .int 0, .int 0])), (q7, .inl (cI, 8, .inl (fun _ => 0))), (q15, .inl (cI, 24, .inl (fun _ => 0))), (q23, .inl (cI, 8, .inl (fun _ => 0))), (q31, .inl (cI, 24, .inl (fun _ => 0))), (q39, .inl (cI, 24, .inl (fun _ => 0))), (q47, .inl (cI, 24, .inl (fun _ => 0))), (q55, .inl (cI, 24, .inl (fun _ => 0))), (q63, .inl (cI, 8, .inl (fun _ => 0)))] H := hP
  have hD : va_D A [(h0, .inr (3, [.null, .ref q7, .ref q15, .ref q23, .ref q31, .ref q39, .ref q47, .ref q55, .ref q63, .null, .null, .null, .int 0, .int 0, .int 0, .int 0])), (q7, .inl (cI, 8, .inl (fun _ => 0))), (q15, .inl (cI, 24, .inl (fun _ => 0))), (q23, .inl (cI, 8, .inl (fun _ => 0))), (q31, .inl (cI, 24, .inl (fun _ => 0))), (q39, .inl (cI, 24, .inl (fun _ => 0))), (q47, .inl (cI, 24, .inl (fun _ => 0))), (q55, .inl (cI, 24, .inl (fun _ => 0))), (q63, .inl (cI, 8, .inl (fun _ => 0)))] := hD
  refine lv_aload_n hx hb dX3_init_68 rfl (lv_at hl 0 rfl) ?_
  refine lv_bipush (v := iI 8) hx hb dX3_init_69 (by decide) ?_
  refine n_newa (atype := .int) (ty := .int) (N' := 8) (a0 := (8, .inl (fun _ => 0))) hx hb (hts _ ka_int) rfl (Or.inl rfl) hK 0 rfl hP hD hS hA (fun _ => rfl) (by decide) (by decide) (by decide) (Nat.le_of_ble_eq_true rfl) (Nat.le_of_ble_eq_true rfl) dX3_init_71 (fun q71 H hP hD hS => ?_)
  refine W.widen (k := 9) (n := 152) (Nat.le_of_ble_eq_true rfl) (Nat.le_of_ble_eq_true rfl) ?_
  have hP : va_P (dC, dI) vwCl [(h0, .inr (3, [.null, .ref q7, .ref q15, .ref q23, .ref q31, .ref q39, .ref q47, .ref q55, .ref q63, .null, .null, .null, .int 0, .int 0, .int 0, .int 0])), (q7, .inl (cI, 8, .inl (fun _ => 0))), (q15, .inl (cI, 24, .inl (fun _ => 0))), (q23, .inl (cI, 8, .inl (fun _ => 0))), (q31, .inl (cI, 24, .inl (fun _ => 0))), (q39, .inl (cI, 24, .inl (fun _ => 0))), (q47, .inl (cI, 24, .inl (fun _ => 0))), (q55, .inl (cI, 24, .inl (fun _ => 0))), (q63, .inl (cI, 8, .inl (fun _ => 0))), (q71, .inl (cI, 8, .inl (fun _ => 0)))] H := hP
  have hD : va_D A [(h0, .inr (3, [.null, .ref q7, .ref q15, .ref q23, .ref q31, .ref q39, .ref q47, .ref q55, .ref q63, .null, .null, .null, .int 0, .int 0, .int 0, .int 0])), (q7, .inl (cI, 8, .inl (fun _ => 0))), (q15, .inl (cI, 24, .inl (fun _ => 0))), (q23, .inl (cI, 8, .inl (fun _ => 0))), (q31, .inl (cI, 24, .inl (fun _ => 0))), (q39, .inl (cI, 24, .inl (fun _ => 0))), (q47, .inl (cI, 24, .inl (fun _ => 0))), (q55, .inl (cI, 24, .inl (fun _ => 0))), (q63, .inl (cI, 8, .inl (fun _ => 0))), (q71, .inl (cI, 8, .inl (fun _ => 0)))] := hD
  refine va_putF (D := (dC, dI)) (ci := 3) (v := .ref q71) (ty := tyX3 9) (C := RX3) (T := TX3) (N := 16) hx hb hts ku_X3 tyX3 tyX3_ok nmX3 hown hK hP hD hS 0 rfl rfl 9 (by decide) (hts _ kf_X3_36) (fun _ h9 => h9) rfl hin rfl (tyX3_ok 9 (by decide)) rfl rfl (Nat.le_of_ble_eq_true rfl) dX3_init_73 (fun H locs hP hD hS => ?_)
  have hP : va_P (dC, dI) vwCl [(h0, .inr (3, [.null, .ref q7, .ref q15, .ref q23, .ref q31, .ref q39, .ref q47, .ref q55, .ref q63, .ref q71, .null, .null, .int 0, .int 0, .int 0, .int 0])), (q7, .inl (cI, 8, .inl (fun _ => 0))), (q15, .inl (cI, 24, .inl (fun _ => 0))), (q23, .inl (cI, 8, .inl (fun _ => 0))), (q31, .inl (cI, 24, .inl (fun _ => 0))), (q39, .inl (cI, 24, .inl (fun _ => 0))), (q47, .inl (cI, 24, .inl (fun _ => 0))), (q55, .inl (cI, 24, .inl (fun _ => 0))), (q63, .inl (cI, 8, .inl (fun _ => 0))), (q71, .inl (cI, 8, .inl (fun _ => 0)))] H := hP
  have hD : va_D A [(h0, .inr (3, [.null, .ref q7, .ref q15, .ref q23, .ref q31, .ref q39, .ref q47, .ref q55, .ref q63, .ref q71, .null, .null, .int 0, .int 0, .int 0, .int 0])), (q7, .inl (cI, 8, .inl (fun _ => 0))), (q15, .inl (cI, 24, .inl (fun _ => 0))), (q23, .inl (cI, 8, .inl (fun _ => 0))), (q31, .inl (cI, 24, .inl (fun _ => 0))), (q39, .inl (cI, 24, .inl (fun _ => 0))), (q47, .inl (cI, 24, .inl (fun _ => 0))), (q55, .inl (cI, 24, .inl (fun _ => 0))), (q63, .inl (cI, 8, .inl (fun _ => 0))), (q71, .inl (cI, 8, .inl (fun _ => 0)))] := hD
  refine lv_aload_n hx hb dX3_init_76 rfl (lv_at hl 0 rfl) ?_
  refine lv_bipush (v := iI 8) hx hb dX3_init_77 (by decide) ?_
  refine n_newa (atype := .int) (ty := .int) (N' := 8) (a0 := (8, .inl (fun _ => 0))) hx hb (hts _ ka_int) rfl (Or.inl rfl) hK 0 rfl hP hD hS hA (fun _ => rfl) (by decide) (by decide) (by decide) (Nat.le_of_ble_eq_true rfl) (Nat.le_of_ble_eq_true rfl) dX3_init_79 (fun q79 H hP hD hS => ?_)
  refine W.widen (k := 10) (n := 160) (Nat.le_of_ble_eq_true rfl) (Nat.le_of_ble_eq_true rfl) ?_
  have hP : va_P (dC, dI) vwCl [(h0, .inr (3, [.null, .ref q7, .ref q15, .ref q23, .ref q31, .ref q39, .ref q47, .ref q55, .ref q63, .ref q71, .null, .null, .int 0, .int 0, .int 0, .int 0])), (q7, .inl (cI, 8, .inl (fun _ => 0))), (q15, .inl (cI, 24, .inl (fun _ => 0))), (q23, .inl (cI, 8, .inl (fun _ => 0))), (q31, .inl (cI, 24, .inl (fun _ => 0))), (q39, .inl (cI, 24, .inl (fun _ => 0))), (q47, .inl (cI, 24, .inl (fun _ => 0))), (q55, .inl (cI, 24, .inl (fun _ => 0))), (q63, .inl (cI, 8, .inl (fun _ => 0))), (q71, .inl (cI, 8, .inl (fun _ => 0))), (q79, .inl (cI, 8, .inl (fun _ => 0)))] H := hP
  have hD : va_D A [(h0, .inr (3, [.null, .ref q7, .ref q15, .ref q23, .ref q31, .ref q39, .ref q47, .ref q55, .ref q63, .ref q71, .null, .null, .int 0, .int 0, .int 0, .int 0])), (q7, .inl (cI, 8, .inl (fun _ => 0))), (q15, .inl (cI, 24, .inl (fun _ => 0))), (q23, .inl (cI, 8, .inl (fun _ => 0))), (q31, .inl (cI, 24, .inl (fun _ => 0))), (q39, .inl (cI, 24, .inl (fun _ => 0))), (q47, .inl (cI, 24, .inl (fun _ => 0))), (q55, .inl (cI, 24, .inl (fun _ => 0))), (q63, .inl (cI, 8, .inl (fun _ => 0))), (q71, .inl (cI, 8, .inl (fun _ => 0))), (q79, .inl (cI, 8, .inl (fun _ => 0)))] := hD
  refine va_putF (D := (dC, dI)) (ci := 3) (v := .ref q79) (ty := tyX3 10) (C := RX3) (T := TX3) (N := 16) hx hb hts ku_X3 tyX3 tyX3_ok nmX3 hown hK hP hD hS 0 rfl rfl 10 (by decide) (hts _ kf_X3_39) (fun _ h9 => h9) rfl hin rfl (tyX3_ok 10 (by decide)) rfl rfl (Nat.le_of_ble_eq_true rfl) dX3_init_81 (fun H locs hP hD hS => ?_)
  have hP : va_P (dC, dI) vwCl [(h0, .inr (3, [.null, .ref q7, .ref q15, .ref q23, .ref q31, .ref q39, .ref q47, .ref q55, .ref q63, .ref q71, .ref q79, .null, .int 0, .int 0, .int 0, .int 0])), (q7, .inl (cI, 8, .inl (fun _ => 0))), (q15, .inl (cI, 24, .inl (fun _ => 0))), (q23, .inl (cI, 8, .inl (fun _ => 0))), (q31, .inl (cI, 24, .inl (fun _ => 0))), (q39, .inl (cI, 24, .inl (fun _ => 0))), (q47, .inl (cI, 24, .inl (fun _ => 0))), (q55, .inl (cI, 24, .inl (fun _ => 0))), (q63, .inl (cI, 8, .inl (fun _ => 0))), (q71, .inl (cI, 8, .inl (fun _ => 0))), (q79, .inl (cI, 8, .inl (fun _ => 0)))] H := hP
  have hD : va_D A [(h0, .inr (3, [.null, .ref q7, .ref q15, .ref q23, .ref q31, .ref q39, .ref q47, .ref q55, .ref q63, .ref q71, .ref q79, .null, .int 0, .int 0, .int 0, .int 0])), (q7, .inl (cI, 8, .inl (fun _ => 0))), (q15, .inl (cI, 24, .inl (fun _ => 0))), (q23, .inl (cI, 8, .inl (fun _ => 0))), (q31, .inl (cI, 24, .inl (fun _ => 0))), (q39, .inl (cI, 24, .inl (fun _ => 0))), (q47, .inl (cI, 24, .inl (fun _ => 0))), (q55, .inl (cI, 24, .inl (fun _ => 0))), (q63, .inl (cI, 8, .inl (fun _ => 0))), (q71, .inl (cI, 8, .inl (fun _ => 0))), (q79, .inl (cI, 8, .inl (fun _ => 0)))] := hD
  refine lv_aload_n hx hb dX3_init_84 rfl (lv_at hl 0 rfl) ?_
  refine lv_bipush (v := iI 8) hx hb dX3_init_85 (by decide) ?_
  refine n_newa (atype := .int) (ty := .int) (N' := 8) (a0 := (8, .inl (fun _ => 0))) hx hb (hts _ ka_int) rfl (Or.inl rfl) hK 0 rfl hP hD hS hA (fun _ => rfl) (by decide) (by decide) (by decide) (Nat.le_of_ble_eq_true rfl) (Nat.le_of_ble_eq_true rfl) dX3_init_87 (fun q87 H hP hD hS => ?_)
  refine W.widen (k := 11) (n := 168) (Nat.le_of_ble_eq_true rfl) (Nat.le_of_ble_eq_true rfl) ?_
  have hP : va_P (dC, dI) vwCl [(h0, .inr (3, [.null, .ref q7, .ref q15, .ref q23, .ref q31, .ref q39, .ref q47, .ref q55, .ref q63, .ref q71, .ref q79, .null, .int 0, .int 0, .int 0, .int 0])), (q7, .inl (cI, 8, .inl (fun _ => 0))), (q15, .inl (cI, 24, .inl (fun _ => 0))), (q23, .inl (cI, 8, .inl (fun _ => 0))), (q31, .inl (cI, 24, .inl (fun _ => 0))), (q39, .inl (cI, 24, .inl (fun _ => 0))), (q47, .inl (cI, 24, .inl (fun _ => 0))), (q55, .inl (cI, 24, .inl (fun _ => 0))), (q63, .inl (cI, 8, .inl (fun _ => 0))), (q71, .inl (cI, 8, .inl (fun _ => 0))), (q79, .inl (cI, 8, .inl (fun _ => 0))), (q87, .inl (cI, 8, .inl (fun _ => 0)))] H := hP
  have hD : va_D A [(h0, .inr (3, [.null, .ref q7, .ref q15, .ref q23, .ref q31, .ref q39, .ref q47, .ref q55, .ref q63, .ref q71, .ref q79, .null, .int 0, .int 0, .int 0, .int 0])), (q7, .inl (cI, 8, .inl (fun _ => 0))), (q15, .inl (cI, 24, .inl (fun _ => 0))), (q23, .inl (cI, 8, .inl (fun _ => 0))), (q31, .inl (cI, 24, .inl (fun _ => 0))), (q39, .inl (cI, 24, .inl (fun _ => 0))), (q47, .inl (cI, 24, .inl (fun _ => 0))), (q55, .inl (cI, 24, .inl (fun _ => 0))), (q63, .inl (cI, 8, .inl (fun _ => 0))), (q71, .inl (cI, 8, .inl (fun _ => 0))), (q79, .inl (cI, 8, .inl (fun _ => 0))), (q87, .inl (cI, 8, .inl (fun _ => 0)))] := hD
  refine va_putF (D := (dC, dI)) (ci := 3) (v := .ref q87) (ty := tyX3 11) (C := RX3) (T := TX3) (N := 16) hx hb hts ku_X3 tyX3 tyX3_ok nmX3 hown hK hP hD hS 0 rfl rfl 11 (by decide) (hts _ kf_X3_42) (fun _ h9 => h9) rfl hin rfl (tyX3_ok 11 (by decide)) rfl rfl (Nat.le_of_ble_eq_true rfl) dX3_init_89 (fun H locs hP hD hS => ?_)
  have hP : va_P (dC, dI) vwCl [(h0, .inr (3, [.null, .ref q7, .ref q15, .ref q23, .ref q31, .ref q39, .ref q47, .ref q55, .ref q63, .ref q71, .ref q79, .ref q87, .int 0, .int 0, .int 0, .int 0])), (q7, .inl (cI, 8, .inl (fun _ => 0))), (q15, .inl (cI, 24, .inl (fun _ => 0))), (q23, .inl (cI, 8, .inl (fun _ => 0))), (q31, .inl (cI, 24, .inl (fun _ => 0))), (q39, .inl (cI, 24, .inl (fun _ => 0))), (q47, .inl (cI, 24, .inl (fun _ => 0))), (q55, .inl (cI, 24, .inl (fun _ => 0))), (q63, .inl (cI, 8, .inl (fun _ => 0))), (q71, .inl (cI, 8, .inl (fun _ => 0))), (q79, .inl (cI, 8, .inl (fun _ => 0))), (q87, .inl (cI, 8, .inl (fun _ => 0)))] H := hP
  have hD : va_D A [(h0, .inr (3, [.null, .ref q7, .ref q15, .ref q23, .ref q31, .ref q39, .ref q47, .ref q55, .ref q63, .ref q71, .ref q79, .ref q87, .int 0, .int 0, .int 0, .int 0])), (q7, .inl (cI, 8, .inl (fun _ => 0))), (q15, .inl (cI, 24, .inl (fun _ => 0))), (q23, .inl (cI, 8, .inl (fun _ => 0))), (q31, .inl (cI, 24, .inl (fun _ => 0))), (q39, .inl (cI, 24, .inl (fun _ => 0))), (q47, .inl (cI, 24, .inl (fun _ => 0))), (q55, .inl (cI, 24, .inl (fun _ => 0))), (q63, .inl (cI, 8, .inl (fun _ => 0))), (q71, .inl (cI, 8, .inl (fun _ => 0))), (q79, .inl (cI, 8, .inl (fun _ => 0))), (q87, .inl (cI, 8, .inl (fun _ => 0)))] := hD
  refine lv_aload_n hx hb dX3_init_92 rfl (lv_at hl 0 rfl) ?_
  refine lv_aload_n hx hb dX3_init_93 rfl (lv_at hl 1 rfl) ?_
  refine va_putF (D := (dC, dI)) (ci := 3) (v := .ref p0) (ty := tyX3 0) (C := RX3) (T := TX3) (N := 16) hx hb hts ku_X3 tyX3 tyX3_ok nmX3 hown hK hP hD hS 0 rfl rfl 0 (by decide) (hts _ kf_X3_45) (fun _ h9 => h9) rfl hin rfl (tyX3_ok 0 (by decide)) rfl rfl (Nat.le_of_ble_eq_true rfl) dX3_init_94 (fun H locs hP hD hS => ?_)
  have hP : va_P (dC, dI) vwCl [(h0, .inr (3, [.ref p0, .ref q7, .ref q15, .ref q23, .ref q31, .ref q39, .ref q47, .ref q55, .ref q63, .ref q71, .ref q79, .ref q87, .int 0, .int 0, .int 0, .int 0])), (q7, .inl (cI, 8, .inl (fun _ => 0))), (q15, .inl (cI, 24, .inl (fun _ => 0))), (q23, .inl (cI, 8, .inl (fun _ => 0))), (q31, .inl (cI, 24, .inl (fun _ => 0))), (q39, .inl (cI, 24, .inl (fun _ => 0))), (q47, .inl (cI, 24, .inl (fun _ => 0))), (q55, .inl (cI, 24, .inl (fun _ => 0))), (q63, .inl (cI, 8, .inl (fun _ => 0))), (q71, .inl (cI, 8, .inl (fun _ => 0))), (q79, .inl (cI, 8, .inl (fun _ => 0))), (q87, .inl (cI, 8, .inl (fun _ => 0)))] H := hP
  have hD : va_D A [(h0, .inr (3, [.ref p0, .ref q7, .ref q15, .ref q23, .ref q31, .ref q39, .ref q47, .ref q55, .ref q63, .ref q71, .ref q79, .ref q87, .int 0, .int 0, .int 0, .int 0])), (q7, .inl (cI, 8, .inl (fun _ => 0))), (q15, .inl (cI, 24, .inl (fun _ => 0))), (q23, .inl (cI, 8, .inl (fun _ => 0))), (q31, .inl (cI, 24, .inl (fun _ => 0))), (q39, .inl (cI, 24, .inl (fun _ => 0))), (q47, .inl (cI, 24, .inl (fun _ => 0))), (q55, .inl (cI, 24, .inl (fun _ => 0))), (q63, .inl (cI, 8, .inl (fun _ => 0))), (q71, .inl (cI, 8, .inl (fun _ => 0))), (q79, .inl (cI, 8, .inl (fun _ => 0))), (q87, .inl (cI, 8, .inl (fun _ => 0)))] := hD
  exact W.vret hx hb hr (fun t1 ht hW => ⟨⟨fun k => ([q7, q15, q23, q31, q39, q47, q55, q63, q71, q79, q87] : List Nat).getD k 0, rfl, trivial, by rw [ht]; exact hP, hD⟩, hS.F ht⟩) hS.2.2 dX3_init_97
abbrev wX2_init (cI : ClassId) (h0 p0 : Nat) (u : Nat → Nat) : va_W := [(h0, .inr (2, [.ref p0, .ref (u 0), .ref (u 1), .ref (u 2), .int 0])), ((u 0), .inl (cI, 8, .inl (fun _ => 0))), ((u 1), .inl (cI, 24, .inl (fun _ => 0))), ((u 2), .inl (cI, 24, .inl (fun _ => 0)))]
set_option maxHeartbeats 4000000 in
set_option maxRecDepth 100000 in
theorem k_X2_init (l : Launch) (dC : Nat → ClassId) (dI : Nat → Nat → Nat) (cI cZ : ClassId) (h0 p0 sz : Nat) : Met l yX2_init (.code yX2_init cX2_init 2 none :: lw_good) { frames := 1, cells := 3, slots := 56, locals := 20 } (va_Pc [.ref h0, .ref p0] (nW dC dI cI cZ sz [(h0, .inr (2, [.null, .null, .null, .null, .int 0]))])) (va_Qv (fun _ : Nat → Nat => True) (fun u t1 => va_P (dC, dI) vwCl (wX2_init cI h0 p0 u) t1.heap ∧ va_D (va_A [(h0, .inr (2, [.null, .null, .null, .null, .int 0]))] sz) (wX2_init cI h0 p0 u)) (va_A [(h0, .inr (2, [.null, .null, .null, .null, .int 0]))] sz)) 3 56 (va_A [(h0, .inr (2, [.null, .null, .null, .null, .int 0]))] sz) := by
  refine Met.ofW (cc := cX2_init) (maxL := 2) (ret := none) (by decide) rfl ?_
  intro p e s m args below meth c s₁ B hml hv
  obtain ⟨rfl, hsz, hP, hK, hD0⟩ := hv
  have hx := B.exec
  have hb := B.bytes
  have hr := B.returns
  have hts : ∀ w ∈ lw_good, w.before _ s = true := fun w hw => atoms_spec (ws := .code yX2_init cX2_init 2 none :: lw_good) B.pre w (List.mem_cons_of_mem _ hw)
  have hown : s.vm.findClass RX2 = some m.cls := findClass_of_methodNamed B.named
  have hlocks := B.notSynchronized
  have hin : meth.name = "<init>" := (name_of_methodNamed B.named B.method).1
  subst hsz
  have hD := hD0.self (sz := s.heap.size)
  generalize hAe : va_A [(h0, .inr (2, [.null, .null, .null, .null, .int 0]))] s.heap.size = A at hD ⊢
  have hA : ∀ q : Nat, s.heap.size ≤ q → A q := fun q h => by rw [← hAe]; exact Or.inr h
  have hS : va_S A s.heap s.heap [] := va_S.rf
  have hl := lv_entry ([.ref h0, .ref p0]) (n := 2) (Nat.le_of_ble_eq_true rfl)
  rw [lg_entry_eq]
  generalize (lg_sl ([.ref h0, .ref p0]) ++ List.replicate (2 - (lg_sl ([.ref h0, .ref p0])).length) Slot.unset).toArray = ls at hl ⊢
  have hl : lv_has ls 2 [(0, .ref h0), (1, .ref p0)] := hl
  refine lv_aload_n hx hb dX2_init_0 rfl (lv_at hl 0 rfl) ?_
  refine W.objInit hx hb hown (hts _ ko_X2) (hts _ ko_im) (hts _ ko_code) rfl (by rw [hml]; exact hl.1) rfl dX2_init_1 (Nat.le_of_ble_eq_true rfl) (Nat.le_of_ble_eq_true rfl) ?_
  refine W.eq (g2 := F0 m 4 ls []) rfl ?_
  refine lv_aload_n hx hb dX2_init_4 rfl (lv_at hl 0 rfl) ?_
  refine lv_bipush (v := iI 8) hx hb dX2_init_5 (by decide) ?_
  refine n_newa (atype := .int) (ty := .int) (N' := 8) (a0 := (8, .inl (fun _ => 0))) hx hb (hts _ ka_int) rfl (Or.inl rfl) hK 0 rfl hP hD hS hA (fun _ => rfl) (by decide) (by decide) (by decide) (Nat.le_of_ble_eq_true rfl) (Nat.le_of_ble_eq_true rfl) dX2_init_7 (fun q7 H hP hD hS => ?_)
  refine W.widen (k := 1) (n := 8) (Nat.le_of_ble_eq_true rfl) (Nat.le_of_ble_eq_true rfl) ?_
  have hP : va_P (dC, dI) vwCl [(h0, .inr (2, [.null, .null, .null, .null, .int 0])), (q7, .inl (cI, 8, .inl (fun _ => 0)))] H := hP
  have hD : va_D A [(h0, .inr (2, [.null, .null, .null, .null, .int 0])), (q7, .inl (cI, 8, .inl (fun _ => 0)))] := hD
  refine va_putF (D := (dC, dI)) (ci := 2) (v := .ref q7) (ty := tyX2 1) (C := RX2) (T := TX2) (N := 5) hx hb hts ku_X2 tyX2 tyX2_ok nmX2 hown hK hP hD hS 0 rfl rfl 1 (by decide) (hts _ kf_X2_9) (fun _ h9 => h9) rfl hin rfl (tyX2_ok 1 (by decide)) rfl rfl (Nat.le_of_ble_eq_true rfl) dX2_init_9 (fun H locs hP hD hS => ?_)
  have hP : va_P (dC, dI) vwCl [(h0, .inr (2, [.null, .ref q7, .null, .null, .int 0])), (q7, .inl (cI, 8, .inl (fun _ => 0)))] H := hP
  have hD : va_D A [(h0, .inr (2, [.null, .ref q7, .null, .null, .int 0])), (q7, .inl (cI, 8, .inl (fun _ => 0)))] := hD
  refine lv_aload_n hx hb dX2_init_12 rfl (lv_at hl 0 rfl) ?_
  refine lv_bipush (v := iI 24) hx hb dX2_init_13 (by decide) ?_
  refine n_newa (atype := .int) (ty := .int) (N' := 24) (a0 := (24, .inl (fun _ => 0))) hx hb (hts _ ka_int) rfl (Or.inl rfl) hK 0 rfl hP hD hS hA (fun _ => rfl) (by decide) (by decide) (by decide) (Nat.le_of_ble_eq_true rfl) (Nat.le_of_ble_eq_true rfl) dX2_init_15 (fun q15 H hP hD hS => ?_)
  refine W.widen (k := 2) (n := 32) (Nat.le_of_ble_eq_true rfl) (Nat.le_of_ble_eq_true rfl) ?_
  have hP : va_P (dC, dI) vwCl [(h0, .inr (2, [.null, .ref q7, .null, .null, .int 0])), (q7, .inl (cI, 8, .inl (fun _ => 0))), (q15, .inl (cI, 24, .inl (fun _ => 0)))] H := hP
  have hD : va_D A [(h0, .inr (2, [.null, .ref q7, .null, .null, .int 0])), (q7, .inl (cI, 8, .inl (fun _ => 0))), (q15, .inl (cI, 24, .inl (fun _ => 0)))] := hD
  refine va_putF (D := (dC, dI)) (ci := 2) (v := .ref q15) (ty := tyX2 2) (C := RX2) (T := TX2) (N := 5) hx hb hts ku_X2 tyX2 tyX2_ok nmX2 hown hK hP hD hS 0 rfl rfl 2 (by decide) (hts _ kf_X2_15) (fun _ h9 => h9) rfl hin rfl (tyX2_ok 2 (by decide)) rfl rfl (Nat.le_of_ble_eq_true rfl) dX2_init_17 (fun H locs hP hD hS => ?_)
  have hP : va_P (dC, dI) vwCl [(h0, .inr (2, [.null, .ref q7, .ref q15, .null, .int 0])), (q7, .inl (cI, 8, .inl (fun _ => 0))), (q15, .inl (cI, 24, .inl (fun _ => 0)))] H := hP
  have hD : va_D A [(h0, .inr (2, [.null, .ref q7, .ref q15, .null, .int 0])), (q7, .inl (cI, 8, .inl (fun _ => 0))), (q15, .inl (cI, 24, .inl (fun _ => 0)))] := hD
  refine lv_aload_n hx hb dX2_init_20 rfl (lv_at hl 0 rfl) ?_
  refine lv_bipush (v := iI 24) hx hb dX2_init_21 (by decide) ?_
  refine n_newa (atype := .int) (ty := .int) (N' := 24) (a0 := (24, .inl (fun _ => 0))) hx hb (hts _ ka_int) rfl (Or.inl rfl) hK 0 rfl hP hD hS hA (fun _ => rfl) (by decide) (by decide) (by decide) (Nat.le_of_ble_eq_true rfl) (Nat.le_of_ble_eq_true rfl) dX2_init_23 (fun q23 H hP hD hS => ?_)
  refine W.widen (k := 3) (n := 56) (Nat.le_of_ble_eq_true rfl) (Nat.le_of_ble_eq_true rfl) ?_
  have hP : va_P (dC, dI) vwCl [(h0, .inr (2, [.null, .ref q7, .ref q15, .null, .int 0])), (q7, .inl (cI, 8, .inl (fun _ => 0))), (q15, .inl (cI, 24, .inl (fun _ => 0))), (q23, .inl (cI, 24, .inl (fun _ => 0)))] H := hP
  have hD : va_D A [(h0, .inr (2, [.null, .ref q7, .ref q15, .null, .int 0])), (q7, .inl (cI, 8, .inl (fun _ => 0))), (q15, .inl (cI, 24, .inl (fun _ => 0))), (q23, .inl (cI, 24, .inl (fun _ => 0)))] := hD
  refine va_putF (D := (dC, dI)) (ci := 2) (v := .ref q23) (ty := tyX2 3) (C := RX2) (T := TX2) (N := 5) hx hb hts ku_X2 tyX2 tyX2_ok nmX2 hown hK hP hD hS 0 rfl rfl 3 (by decide) (hts _ kf_X2_18) (fun _ h9 => h9) rfl hin rfl (tyX2_ok 3 (by decide)) rfl rfl (Nat.le_of_ble_eq_true rfl) dX2_init_25 (fun H locs hP hD hS => ?_)
  have hP : va_P (dC, dI) vwCl [(h0, .inr (2, [.null, .ref q7, .ref q15, .ref q23, .int 0])), (q7, .inl (cI, 8, .inl (fun _ => 0))), (q15, .inl (cI, 24, .inl (fun _ => 0))), (q23, .inl (cI, 24, .inl (fun _ => 0)))] H := hP
  have hD : va_D A [(h0, .inr (2, [.null, .ref q7, .ref q15, .ref q23, .int 0])), (q7, .inl (cI, 8, .inl (fun _ => 0))), (q15, .inl (cI, 24, .inl (fun _ => 0))), (q23, .inl (cI, 24, .inl (fun _ => 0)))] := hD
  refine lv_aload_n hx hb dX2_init_28 rfl (lv_at hl 0 rfl) ?_
  refine lv_aload_n hx hb dX2_init_29 rfl (lv_at hl 1 rfl) ?_
  refine va_putF (D := (dC, dI)) (ci := 2) (v := .ref p0) (ty := tyX2 0) (C := RX2) (T := TX2) (N := 5) hx hb hts ku_X2 tyX2 tyX2_ok nmX2 hown hK hP hD hS 0 rfl rfl 0 (by decide) (hts _ kf_X2_21) (fun _ h9 => h9) rfl hin rfl (tyX2_ok 0 (by decide)) rfl rfl (Nat.le_of_ble_eq_true rfl) dX2_init_30 (fun H locs hP hD hS => ?_)
  have hP : va_P (dC, dI) vwCl [(h0, .inr (2, [.ref p0, .ref q7, .ref q15, .ref q23, .int 0])), (q7, .inl (cI, 8, .inl (fun _ => 0))), (q15, .inl (cI, 24, .inl (fun _ => 0))), (q23, .inl (cI, 24, .inl (fun _ => 0)))] H := hP
  have hD : va_D A [(h0, .inr (2, [.ref p0, .ref q7, .ref q15, .ref q23, .int 0])), (q7, .inl (cI, 8, .inl (fun _ => 0))), (q15, .inl (cI, 24, .inl (fun _ => 0))), (q23, .inl (cI, 24, .inl (fun _ => 0)))] := hD
  exact W.vret hx hb hr (fun t1 ht hW => ⟨⟨fun k => ([q7, q15, q23] : List Nat).getD k 0, rfl, trivial, by rw [ht]; exact hP, hD⟩, hS.F ht⟩) hS.2.2 dX2_init_33
abbrev wX0_init (cI : ClassId) (h0 p0 : Nat) (u : Nat → Nat) : va_W := [(h0, .inr (0, [.ref p0, .ref (u 0), .ref (u 1)])), ((u 0), .inl (cI, 60, .inl (fun _ => 0))), ((u 1), .inl (cI, 9, .inl (fun _ => 0)))]
set_option maxHeartbeats 4000000 in
set_option maxRecDepth 100000 in
theorem k_X0_init (l : Launch) (dC : Nat → ClassId) (dI : Nat → Nat → Nat) (cI cZ : ClassId) (h0 p0 sz : Nat) : Met l yX0_init (.code yX0_init cX0_init 2 none :: lw_good) { frames := 1, cells := 2, slots := 69, locals := 20 } (va_Pc [.ref h0, .ref p0] (nW dC dI cI cZ sz [(h0, .inr (0, [.null, .null, .null]))])) (va_Qv (fun _ : Nat → Nat => True) (fun u t1 => va_P (dC, dI) vwCl (wX0_init cI h0 p0 u) t1.heap ∧ va_D (va_A [(h0, .inr (0, [.null, .null, .null]))] sz) (wX0_init cI h0 p0 u)) (va_A [(h0, .inr (0, [.null, .null, .null]))] sz)) 2 69 (va_A [(h0, .inr (0, [.null, .null, .null]))] sz) := by
  refine Met.ofW (cc := cX0_init) (maxL := 2) (ret := none) (by decide) rfl ?_
  intro p e s m args below meth c s₁ B hml hv
  obtain ⟨rfl, hsz, hP, hK, hD0⟩ := hv
  have hx := B.exec
  have hb := B.bytes
  have hr := B.returns
  have hts : ∀ w ∈ lw_good, w.before _ s = true := fun w hw => atoms_spec (ws := .code yX0_init cX0_init 2 none :: lw_good) B.pre w (List.mem_cons_of_mem _ hw)
  have hown : s.vm.findClass RX0 = some m.cls := findClass_of_methodNamed B.named
  have hlocks := B.notSynchronized
  have hin : meth.name = "<init>" := (name_of_methodNamed B.named B.method).1
  subst hsz
  have hD := hD0.self (sz := s.heap.size)
  generalize hAe : va_A [(h0, .inr (0, [.null, .null, .null]))] s.heap.size = A at hD ⊢
  have hA : ∀ q : Nat, s.heap.size ≤ q → A q := fun q h => by rw [← hAe]; exact Or.inr h
  have hS : va_S A s.heap s.heap [] := va_S.rf
  have hl := lv_entry ([.ref h0, .ref p0]) (n := 2) (Nat.le_of_ble_eq_true rfl)
  rw [lg_entry_eq]
  generalize (lg_sl ([.ref h0, .ref p0]) ++ List.replicate (2 - (lg_sl ([.ref h0, .ref p0])).length) Slot.unset).toArray = ls at hl ⊢
  have hl : lv_has ls 2 [(0, .ref h0), (1, .ref p0)] := hl
  refine lv_aload_n hx hb dX0_init_0 rfl (lv_at hl 0 rfl) ?_
  refine W.objInit hx hb hown (hts _ ko_X0) (hts _ ko_im) (hts _ ko_code) rfl (by rw [hml]; exact hl.1) rfl dX0_init_1 (Nat.le_of_ble_eq_true rfl) (Nat.le_of_ble_eq_true rfl) ?_
  refine W.eq (g2 := F0 m 4 ls []) rfl ?_
  refine lv_aload_n hx hb dX0_init_4 rfl (lv_at hl 0 rfl) ?_
  refine lv_bipush (v := iI 60) hx hb dX0_init_5 (by decide) ?_
  refine n_newa (atype := .int) (ty := .int) (N' := 60) (a0 := (60, .inl (fun _ => 0))) hx hb (hts _ ka_int) rfl (Or.inl rfl) hK 0 rfl hP hD hS hA (fun _ => rfl) (by decide) (by decide) (by decide) (Nat.le_of_ble_eq_true rfl) (Nat.le_of_ble_eq_true rfl) dX0_init_7 (fun q7 H hP hD hS => ?_)
  refine W.widen (k := 1) (n := 60) (Nat.le_of_ble_eq_true rfl) (Nat.le_of_ble_eq_true rfl) ?_
  have hP : va_P (dC, dI) vwCl [(h0, .inr (0, [.null, .null, .null])), (q7, .inl (cI, 60, .inl (fun _ => 0)))] H := hP
  have hD : va_D A [(h0, .inr (0, [.null, .null, .null])), (q7, .inl (cI, 60, .inl (fun _ => 0)))] := hD
  refine va_putF (D := (dC, dI)) (ci := 0) (v := .ref q7) (ty := tyX0 1) (C := RX0) (T := TX0) (N := 3) hx hb hts ku_X0 tyX0 tyX0_ok nmX0 hown hK hP hD hS 0 rfl rfl 1 (by decide) (hts _ kf_X0_9) (fun _ h9 => h9) rfl hin rfl (tyX0_ok 1 (by decide)) rfl rfl (Nat.le_of_ble_eq_true rfl) dX0_init_9 (fun H locs hP hD hS => ?_)
  have hP : va_P (dC, dI) vwCl [(h0, .inr (0, [.null, .ref q7, .null])), (q7, .inl (cI, 60, .inl (fun _ => 0)))] H := hP
  have hD : va_D A [(h0, .inr (0, [.null, .ref q7, .null])), (q7, .inl (cI, 60, .inl (fun _ => 0)))] := hD
  refine lv_aload_n hx hb dX0_init_12 rfl (lv_at hl 0 rfl) ?_
  refine lv_bipush (v := iI 9) hx hb dX0_init_13 (by decide) ?_
  refine n_newa (atype := .int) (ty := .int) (N' := 9) (a0 := (9, .inl (fun _ => 0))) hx hb (hts _ ka_int) rfl (Or.inl rfl) hK 0 rfl hP hD hS hA (fun _ => rfl) (by decide) (by decide) (by decide) (Nat.le_of_ble_eq_true rfl) (Nat.le_of_ble_eq_true rfl) dX0_init_15 (fun q15 H hP hD hS => ?_)
  refine W.widen (k := 2) (n := 69) (Nat.le_of_ble_eq_true rfl) (Nat.le_of_ble_eq_true rfl) ?_
  have hP : va_P (dC, dI) vwCl [(h0, .inr (0, [.null, .ref q7, .null])), (q7, .inl (cI, 60, .inl (fun _ => 0))), (q15, .inl (cI, 9, .inl (fun _ => 0)))] H := hP
  have hD : va_D A [(h0, .inr (0, [.null, .ref q7, .null])), (q7, .inl (cI, 60, .inl (fun _ => 0))), (q15, .inl (cI, 9, .inl (fun _ => 0)))] := hD
  refine va_putF (D := (dC, dI)) (ci := 0) (v := .ref q15) (ty := tyX0 2) (C := RX0) (T := TX0) (N := 3) hx hb hts ku_X0 tyX0 tyX0_ok nmX0 hown hK hP hD hS 0 rfl rfl 2 (by decide) (hts _ kf_X0_15) (fun _ h9 => h9) rfl hin rfl (tyX0_ok 2 (by decide)) rfl rfl (Nat.le_of_ble_eq_true rfl) dX0_init_17 (fun H locs hP hD hS => ?_)
  have hP : va_P (dC, dI) vwCl [(h0, .inr (0, [.null, .ref q7, .ref q15])), (q7, .inl (cI, 60, .inl (fun _ => 0))), (q15, .inl (cI, 9, .inl (fun _ => 0)))] H := hP
  have hD : va_D A [(h0, .inr (0, [.null, .ref q7, .ref q15])), (q7, .inl (cI, 60, .inl (fun _ => 0))), (q15, .inl (cI, 9, .inl (fun _ => 0)))] := hD
  refine lv_aload_n hx hb dX0_init_20 rfl (lv_at hl 0 rfl) ?_
  refine lv_aload_n hx hb dX0_init_21 rfl (lv_at hl 1 rfl) ?_
  refine va_putF (D := (dC, dI)) (ci := 0) (v := .ref p0) (ty := tyX0 0) (C := RX0) (T := TX0) (N := 3) hx hb hts ku_X0 tyX0 tyX0_ok nmX0 hown hK hP hD hS 0 rfl rfl 0 (by decide) (hts _ kf_X0_18) (fun _ h9 => h9) rfl hin rfl (tyX0_ok 0 (by decide)) rfl rfl (Nat.le_of_ble_eq_true rfl) dX0_init_22 (fun H locs hP hD hS => ?_)
  have hP : va_P (dC, dI) vwCl [(h0, .inr (0, [.ref p0, .ref q7, .ref q15])), (q7, .inl (cI, 60, .inl (fun _ => 0))), (q15, .inl (cI, 9, .inl (fun _ => 0)))] H := hP
  have hD : va_D A [(h0, .inr (0, [.ref p0, .ref q7, .ref q15])), (q7, .inl (cI, 60, .inl (fun _ => 0))), (q15, .inl (cI, 9, .inl (fun _ => 0)))] := hD
  exact W.vret hx hb hr (fun t1 ht hW => ⟨⟨fun k => ([q7, q15] : List Nat).getD k 0, rfl, trivial, by rw [ht]; exact hP, hD⟩, hS.F ht⟩) hS.2.2 dX0_init_25
abbrev wX1_init (cI : ClassId) (h0 p0 : Nat) (u : Nat → Nat) : va_W := [(h0, .inr (1, [.ref p0, .ref (u 0), .ref (u 1), .ref (u 2), .ref (u 3), .ref (u 4), .int 0, .ref (u 5), .int 0, .int 0])), ((u 0), .inl (cI, 4, .inl (fun _ => 0))), ((u 1), .inl (cI, 1323, .inl (fun _ => 0))), ((u 2), .inl (cI, 144, .inl (fun _ => 0))), ((u 3), .inl (cI, 9, .inl (fun _ => 0))), ((u 4), .inl (cI, 48, .inl (fun _ => 0))), ((u 5), .inl (cI, 3, .inl (fun _ => 0)))]
set_option maxHeartbeats 4000000 in
set_option maxRecDepth 100000 in
theorem k_X1_init (l : Launch) (dC : Nat → ClassId) (dI : Nat → Nat → Nat) (cI cZ : ClassId) (h0 p0 sz : Nat) : Met l yX1_init (.code yX1_init cX1_init 2 none :: lw_good) { frames := 1, cells := 6, slots := 1531, locals := 20 } (va_Pc [.ref h0, .ref p0] (nW dC dI cI cZ sz [(h0, .inr (1, [.null, .null, .null, .null, .null, .null, .int 0, .null, .int 0, .int 0]))])) (va_Qv (fun _ : Nat → Nat => True) (fun u t1 => va_P (dC, dI) vwCl (wX1_init cI h0 p0 u) t1.heap ∧ va_D (va_A [(h0, .inr (1, [.null, .null, .null, .null, .null, .null, .int 0, .null, .int 0, .int 0]))] sz) (wX1_init cI h0 p0 u)) (va_A [(h0, .inr (1, [.null, .null, .null, .null, .null, .null, .int 0, .null, .int 0, .int 0]))] sz)) 6 1531 (va_A [(h0, .inr (1, [.null, .null, .null, .null, .null, .null, .int 0, .null, .int 0, .int 0]))] sz) := by
  refine Met.ofW (cc := cX1_init) (maxL := 2) (ret := none) (by decide) rfl ?_
  intro p e s m args below meth c s₁ B hml hv
  obtain ⟨rfl, hsz, hP, hK, hD0⟩ := hv
  have hx := B.exec
  have hb := B.bytes
  have hr := B.returns
  have hts : ∀ w ∈ lw_good, w.before _ s = true := fun w hw => atoms_spec (ws := .code yX1_init cX1_init 2 none :: lw_good) B.pre w (List.mem_cons_of_mem _ hw)
  have hown : s.vm.findClass RX1 = some m.cls := findClass_of_methodNamed B.named
  have hlocks := B.notSynchronized
  have hin : meth.name = "<init>" := (name_of_methodNamed B.named B.method).1
  subst hsz
  have hD := hD0.self (sz := s.heap.size)
  generalize hAe : va_A [(h0, .inr (1, [.null, .null, .null, .null, .null, .null, .int 0, .null, .int 0, .int 0]))] s.heap.size = A at hD ⊢
  have hA : ∀ q : Nat, s.heap.size ≤ q → A q := fun q h => by rw [← hAe]; exact Or.inr h
  have hS : va_S A s.heap s.heap [] := va_S.rf
  have hl := lv_entry ([.ref h0, .ref p0]) (n := 2) (Nat.le_of_ble_eq_true rfl)
  rw [lg_entry_eq]
  generalize (lg_sl ([.ref h0, .ref p0]) ++ List.replicate (2 - (lg_sl ([.ref h0, .ref p0])).length) Slot.unset).toArray = ls at hl ⊢
  have hl : lv_has ls 2 [(0, .ref h0), (1, .ref p0)] := hl
  refine lv_aload_n hx hb dX1_init_0 rfl (lv_at hl 0 rfl) ?_
  refine W.objInit hx hb hown (hts _ ko_X1) (hts _ ko_im) (hts _ ko_code) rfl (by rw [hml]; exact hl.1) rfl dX1_init_1 (Nat.le_of_ble_eq_true rfl) (Nat.le_of_ble_eq_true rfl) ?_
  refine W.eq (g2 := F0 m 4 ls []) rfl ?_
  refine lv_aload_n hx hb dX1_init_4 rfl (lv_at hl 0 rfl) ?_
  refine lv_iconst (v := iI 4) hx hb dX1_init_5 rfl ?_
  refine n_newa (atype := .int) (ty := .int) (N' := 4) (a0 := (4, .inl (fun _ => 0))) hx hb (hts _ ka_int) rfl (Or.inl rfl) hK 0 rfl hP hD hS hA (fun _ => rfl) (by decide) (by decide) (by decide) (Nat.le_of_ble_eq_true rfl) (Nat.le_of_ble_eq_true rfl) dX1_init_6 (fun q6 H hP hD hS => ?_)
  refine W.widen (k := 1) (n := 4) (Nat.le_of_ble_eq_true rfl) (Nat.le_of_ble_eq_true rfl) ?_
  have hP : va_P (dC, dI) vwCl [(h0, .inr (1, [.null, .null, .null, .null, .null, .null, .int 0, .null, .int 0, .int 0])), (q6, .inl (cI, 4, .inl (fun _ => 0)))] H := hP
  have hD : va_D A [(h0, .inr (1, [.null, .null, .null, .null, .null, .null, .int 0, .null, .int 0, .int 0])), (q6, .inl (cI, 4, .inl (fun _ => 0)))] := hD
  refine va_putF (D := (dC, dI)) (ci := 1) (v := .ref q6) (ty := tyX1 1) (C := RX1) (T := TX1) (N := 10) hx hb hts ku_X1 tyX1 tyX1_ok nmX1 hown hK hP hD hS 0 rfl rfl 1 (by decide) (hts _ kf_X1_9) (fun _ h9 => h9) rfl hin rfl (tyX1_ok 1 (by decide)) rfl rfl (Nat.le_of_ble_eq_true rfl) dX1_init_8 (fun H locs hP hD hS => ?_)
  have hP : va_P (dC, dI) vwCl [(h0, .inr (1, [.null, .ref q6, .null, .null, .null, .null, .int 0, .null, .int 0, .int 0])), (q6, .inl (cI, 4, .inl (fun _ => 0)))] H := hP
  have hD : va_D A [(h0, .inr (1, [.null, .ref q6, .null, .null, .null, .null, .int 0, .null, .int 0, .int 0])), (q6, .inl (cI, 4, .inl (fun _ => 0)))] := hD
  refine lv_aload_n hx hb dX1_init_11 rfl (lv_at hl 0 rfl) ?_
  refine lv_sipush (v := iI 1323) hx hb dX1_init_12 (by decide) ?_
  refine n_newa (atype := .int) (ty := .int) (N' := 1323) (a0 := (1323, .inl (fun _ => 0))) hx hb (hts _ ka_int) rfl (Or.inl rfl) hK 0 rfl hP hD hS hA (fun _ => rfl) (by decide) (by decide) (by decide) (Nat.le_of_ble_eq_true rfl) (Nat.le_of_ble_eq_true rfl) dX1_init_15 (fun q15 H hP hD hS => ?_)
  refine W.widen (k := 2) (n := 1327) (Nat.le_of_ble_eq_true rfl) (Nat.le_of_ble_eq_true rfl) ?_
  have hP : va_P (dC, dI) vwCl [(h0, .inr (1, [.null, .ref q6, .null, .null, .null, .null, .int 0, .null, .int 0, .int 0])), (q6, .inl (cI, 4, .inl (fun _ => 0))), (q15, .inl (cI, 1323, .inl (fun _ => 0)))] H := hP
  have hD : va_D A [(h0, .inr (1, [.null, .ref q6, .null, .null, .null, .null, .int 0, .null, .int 0, .int 0])), (q6, .inl (cI, 4, .inl (fun _ => 0))), (q15, .inl (cI, 1323, .inl (fun _ => 0)))] := hD
  refine va_putF (D := (dC, dI)) (ci := 1) (v := .ref q15) (ty := tyX1 2) (C := RX1) (T := TX1) (N := 10) hx hb hts ku_X1 tyX1 tyX1_ok nmX1 hown hK hP hD hS 0 rfl rfl 2 (by decide) (hts _ kf_X1_15) (fun _ h9 => h9) rfl hin rfl (tyX1_ok 2 (by decide)) rfl rfl (Nat.le_of_ble_eq_true rfl) dX1_init_17 (fun H locs hP hD hS => ?_)
  have hP : va_P (dC, dI) vwCl [(h0, .inr (1, [.null, .ref q6, .ref q15, .null, .null, .null, .int 0, .null, .int 0, .int 0])), (q6, .inl (cI, 4, .inl (fun _ => 0))), (q15, .inl (cI, 1323, .inl (fun _ => 0)))] H := hP
  have hD : va_D A [(h0, .inr (1, [.null, .ref q6, .ref q15, .null, .null, .null, .int 0, .null, .int 0, .int 0])), (q6, .inl (cI, 4, .inl (fun _ => 0))), (q15, .inl (cI, 1323, .inl (fun _ => 0)))] := hD
  refine lv_aload_n hx hb dX1_init_20 rfl (lv_at hl 0 rfl) ?_
  refine lv_sipush (v := iI 144) hx hb dX1_init_21 (by decide) ?_
  refine n_newa (atype := .int) (ty := .int) (N' := 144) (a0 := (144, .inl (fun _ => 0))) hx hb (hts _ ka_int) rfl (Or.inl rfl) hK 0 rfl hP hD hS hA (fun _ => rfl) (by decide) (by decide) (by decide) (Nat.le_of_ble_eq_true rfl) (Nat.le_of_ble_eq_true rfl) dX1_init_24 (fun q24 H hP hD hS => ?_)
  refine W.widen (k := 3) (n := 1471) (Nat.le_of_ble_eq_true rfl) (Nat.le_of_ble_eq_true rfl) ?_
  have hP : va_P (dC, dI) vwCl [(h0, .inr (1, [.null, .ref q6, .ref q15, .null, .null, .null, .int 0, .null, .int 0, .int 0])), (q6, .inl (cI, 4, .inl (fun _ => 0))), (q15, .inl (cI, 1323, .inl (fun _ => 0))), (q24, .inl (cI, 144, .inl (fun _ => 0)))] H := hP
  have hD : va_D A [(h0, .inr (1, [.null, .ref q6, .ref q15, .null, .null, .null, .int 0, .null, .int 0, .int 0])), (q6, .inl (cI, 4, .inl (fun _ => 0))), (q15, .inl (cI, 1323, .inl (fun _ => 0))), (q24, .inl (cI, 144, .inl (fun _ => 0)))] := hD
  refine va_putF (D := (dC, dI)) (ci := 1) (v := .ref q24) (ty := tyX1 3) (C := RX1) (T := TX1) (N := 10) hx hb hts ku_X1 tyX1 tyX1_ok nmX1 hown hK hP hD hS 0 rfl rfl 3 (by decide) (hts _ kf_X1_18) (fun _ h9 => h9) rfl hin rfl (tyX1_ok 3 (by decide)) rfl rfl (Nat.le_of_ble_eq_true rfl) dX1_init_26 (fun H locs hP hD hS => ?_)
  have hP : va_P (dC, dI) vwCl [(h0, .inr (1, [.null, .ref q6, .ref q15, .ref q24, .null, .null, .int 0, .null, .int 0, .int 0])), (q6, .inl (cI, 4, .inl (fun _ => 0))), (q15, .inl (cI, 1323, .inl (fun _ => 0))), (q24, .inl (cI, 144, .inl (fun _ => 0)))] H := hP
  have hD : va_D A [(h0, .inr (1, [.null, .ref q6, .ref q15, .ref q24, .null, .null, .int 0, .null, .int 0, .int 0])), (q6, .inl (cI, 4, .inl (fun _ => 0))), (q15, .inl (cI, 1323, .inl (fun _ => 0))), (q24, .inl (cI, 144, .inl (fun _ => 0)))] := hD
  refine lv_aload_n hx hb dX1_init_29 rfl (lv_at hl 0 rfl) ?_
  refine lv_bipush (v := iI 9) hx hb dX1_init_30 (by decide) ?_
  refine n_newa (atype := .int) (ty := .int) (N' := 9) (a0 := (9, .inl (fun _ => 0))) hx hb (hts _ ka_int) rfl (Or.inl rfl) hK 0 rfl hP hD hS hA (fun _ => rfl) (by decide) (by decide) (by decide) (Nat.le_of_ble_eq_true rfl) (Nat.le_of_ble_eq_true rfl) dX1_init_32 (fun q32 H hP hD hS => ?_)
  refine W.widen (k := 4) (n := 1480) (Nat.le_of_ble_eq_true rfl) (Nat.le_of_ble_eq_true rfl) ?_
  have hP : va_P (dC, dI) vwCl [(h0, .inr (1, [.null, .ref q6, .ref q15, .ref q24, .null, .null, .int 0, .null, .int 0, .int 0])), (q6, .inl (cI, 4, .inl (fun _ => 0))), (q15, .inl (cI, 1323, .inl (fun _ => 0))), (q24, .inl (cI, 144, .inl (fun _ => 0))), (q32, .inl (cI, 9, .inl (fun _ => 0)))] H := hP
  have hD : va_D A [(h0, .inr (1, [.null, .ref q6, .ref q15, .ref q24, .null, .null, .int 0, .null, .int 0, .int 0])), (q6, .inl (cI, 4, .inl (fun _ => 0))), (q15, .inl (cI, 1323, .inl (fun _ => 0))), (q24, .inl (cI, 144, .inl (fun _ => 0))), (q32, .inl (cI, 9, .inl (fun _ => 0)))] := hD
  refine va_putF (D := (dC, dI)) (ci := 1) (v := .ref q32) (ty := tyX1 4) (C := RX1) (T := TX1) (N := 10) hx hb hts ku_X1 tyX1 tyX1_ok nmX1 hown hK hP hD hS 0 rfl rfl 4 (by decide) (hts _ kf_X1_21) (fun _ h9 => h9) rfl hin rfl (tyX1_ok 4 (by decide)) rfl rfl (Nat.le_of_ble_eq_true rfl) dX1_init_34 (fun H locs hP hD hS => ?_)
  have hP : va_P (dC, dI) vwCl [(h0, .inr (1, [.null, .ref q6, .ref q15, .ref q24, .ref q32, .null, .int 0, .null, .int 0, .int 0])), (q6, .inl (cI, 4, .inl (fun _ => 0))), (q15, .inl (cI, 1323, .inl (fun _ => 0))), (q24, .inl (cI, 144, .inl (fun _ => 0))), (q32, .inl (cI, 9, .inl (fun _ => 0)))] H := hP
  have hD : va_D A [(h0, .inr (1, [.null, .ref q6, .ref q15, .ref q24, .ref q32, .null, .int 0, .null, .int 0, .int 0])), (q6, .inl (cI, 4, .inl (fun _ => 0))), (q15, .inl (cI, 1323, .inl (fun _ => 0))), (q24, .inl (cI, 144, .inl (fun _ => 0))), (q32, .inl (cI, 9, .inl (fun _ => 0)))] := hD
  refine lv_aload_n hx hb dX1_init_37 rfl (lv_at hl 0 rfl) ?_
  refine lv_bipush (v := iI 48) hx hb dX1_init_38 (by decide) ?_
  refine n_newa (atype := .int) (ty := .int) (N' := 48) (a0 := (48, .inl (fun _ => 0))) hx hb (hts _ ka_int) rfl (Or.inl rfl) hK 0 rfl hP hD hS hA (fun _ => rfl) (by decide) (by decide) (by decide) (Nat.le_of_ble_eq_true rfl) (Nat.le_of_ble_eq_true rfl) dX1_init_40 (fun q40 H hP hD hS => ?_)
  refine W.widen (k := 5) (n := 1528) (Nat.le_of_ble_eq_true rfl) (Nat.le_of_ble_eq_true rfl) ?_
  have hP : va_P (dC, dI) vwCl [(h0, .inr (1, [.null, .ref q6, .ref q15, .ref q24, .ref q32, .null, .int 0, .null, .int 0, .int 0])), (q6, .inl (cI, 4, .inl (fun _ => 0))), (q15, .inl (cI, 1323, .inl (fun _ => 0))), (q24, .inl (cI, 144, .inl (fun _ => 0))), (q32, .inl (cI, 9, .inl (fun _ => 0))), (q40, .inl (cI, 48, .inl (fun _ => 0)))] H := hP
  have hD : va_D A [(h0, .inr (1, [.null, .ref q6, .ref q15, .ref q24, .ref q32, .null, .int 0, .null, .int 0, .int 0])), (q6, .inl (cI, 4, .inl (fun _ => 0))), (q15, .inl (cI, 1323, .inl (fun _ => 0))), (q24, .inl (cI, 144, .inl (fun _ => 0))), (q32, .inl (cI, 9, .inl (fun _ => 0))), (q40, .inl (cI, 48, .inl (fun _ => 0)))] := hD
  refine va_putF (D := (dC, dI)) (ci := 1) (v := .ref q40) (ty := tyX1 5) (C := RX1) (T := TX1) (N := 10) hx hb hts ku_X1 tyX1 tyX1_ok nmX1 hown hK hP hD hS 0 rfl rfl 5 (by decide) (hts _ kf_X1_24) (fun _ h9 => h9) rfl hin rfl (tyX1_ok 5 (by decide)) rfl rfl (Nat.le_of_ble_eq_true rfl) dX1_init_42 (fun H locs hP hD hS => ?_)
  have hP : va_P (dC, dI) vwCl [(h0, .inr (1, [.null, .ref q6, .ref q15, .ref q24, .ref q32, .ref q40, .int 0, .null, .int 0, .int 0])), (q6, .inl (cI, 4, .inl (fun _ => 0))), (q15, .inl (cI, 1323, .inl (fun _ => 0))), (q24, .inl (cI, 144, .inl (fun _ => 0))), (q32, .inl (cI, 9, .inl (fun _ => 0))), (q40, .inl (cI, 48, .inl (fun _ => 0)))] H := hP
  have hD : va_D A [(h0, .inr (1, [.null, .ref q6, .ref q15, .ref q24, .ref q32, .ref q40, .int 0, .null, .int 0, .int 0])), (q6, .inl (cI, 4, .inl (fun _ => 0))), (q15, .inl (cI, 1323, .inl (fun _ => 0))), (q24, .inl (cI, 144, .inl (fun _ => 0))), (q32, .inl (cI, 9, .inl (fun _ => 0))), (q40, .inl (cI, 48, .inl (fun _ => 0)))] := hD
  refine lv_aload_n hx hb dX1_init_45 rfl (lv_at hl 0 rfl) ?_
  refine lv_iconst (v := iI 3) hx hb dX1_init_46 rfl ?_
  refine n_newa (atype := .int) (ty := .int) (N' := 3) (a0 := (3, .inl (fun _ => 0))) hx hb (hts _ ka_int) rfl (Or.inl rfl) hK 0 rfl hP hD hS hA (fun _ => rfl) (by decide) (by decide) (by decide) (Nat.le_of_ble_eq_true rfl) (Nat.le_of_ble_eq_true rfl) dX1_init_47 (fun q47 H hP hD hS => ?_)
  refine W.widen (k := 6) (n := 1531) (Nat.le_of_ble_eq_true rfl) (Nat.le_of_ble_eq_true rfl) ?_
  have hP : va_P (dC, dI) vwCl [(h0, .inr (1, [.null, .ref q6, .ref q15, .ref q24, .ref q32, .ref q40, .int 0, .null, .int 0, .int 0])), (q6, .inl (cI, 4, .inl (fun _ => 0))), (q15, .inl (cI, 1323, .inl (fun _ => 0))), (q24, .inl (cI, 144, .inl (fun _ => 0))), (q32, .inl (cI, 9, .inl (fun _ => 0))), (q40, .inl (cI, 48, .inl (fun _ => 0))), (q47, .inl (cI, 3, .inl (fun _ => 0)))] H := hP
  have hD : va_D A [(h0, .inr (1, [.null, .ref q6, .ref q15, .ref q24, .ref q32, .ref q40, .int 0, .null, .int 0, .int 0])), (q6, .inl (cI, 4, .inl (fun _ => 0))), (q15, .inl (cI, 1323, .inl (fun _ => 0))), (q24, .inl (cI, 144, .inl (fun _ => 0))), (q32, .inl (cI, 9, .inl (fun _ => 0))), (q40, .inl (cI, 48, .inl (fun _ => 0))), (q47, .inl (cI, 3, .inl (fun _ => 0)))] := hD
  refine va_putF (D := (dC, dI)) (ci := 1) (v := .ref q47) (ty := tyX1 7) (C := RX1) (T := TX1) (N := 10) hx hb hts ku_X1 tyX1 tyX1_ok nmX1 hown hK hP hD hS 0 rfl rfl 7 (by decide) (hts _ kf_X1_27) (fun _ h9 => h9) rfl hin rfl (tyX1_ok 7 (by decide)) rfl rfl (Nat.le_of_ble_eq_true rfl) dX1_init_49 (fun H locs hP hD hS => ?_)
  have hP : va_P (dC, dI) vwCl [(h0, .inr (1, [.null, .ref q6, .ref q15, .ref q24, .ref q32, .ref q40, .int 0, .ref q47, .int 0, .int 0])), (q6, .inl (cI, 4, .inl (fun _ => 0))), (q15, .inl (cI, 1323, .inl (fun _ => 0))), (q24, .inl (cI, 144, .inl (fun _ => 0))), (q32, .inl (cI, 9, .inl (fun _ => 0))), (q40, .inl (cI, 48, .inl (fun _ => 0))), (q47, .inl (cI, 3, .inl (fun _ => 0)))] H := hP
  have hD : va_D A [(h0, .inr (1, [.null, .ref q6, .ref q15, .ref q24, .ref q32, .ref q40, .int 0, .ref q47, .int 0, .int 0])), (q6, .inl (cI, 4, .inl (fun _ => 0))), (q15, .inl (cI, 1323, .inl (fun _ => 0))), (q24, .inl (cI, 144, .inl (fun _ => 0))), (q32, .inl (cI, 9, .inl (fun _ => 0))), (q40, .inl (cI, 48, .inl (fun _ => 0))), (q47, .inl (cI, 3, .inl (fun _ => 0)))] := hD
  refine lv_aload_n hx hb dX1_init_52 rfl (lv_at hl 0 rfl) ?_
  refine lv_aload_n hx hb dX1_init_53 rfl (lv_at hl 1 rfl) ?_
  refine va_putF (D := (dC, dI)) (ci := 1) (v := .ref p0) (ty := tyX1 0) (C := RX1) (T := TX1) (N := 10) hx hb hts ku_X1 tyX1 tyX1_ok nmX1 hown hK hP hD hS 0 rfl rfl 0 (by decide) (hts _ kf_X1_30) (fun _ h9 => h9) rfl hin rfl (tyX1_ok 0 (by decide)) rfl rfl (Nat.le_of_ble_eq_true rfl) dX1_init_54 (fun H locs hP hD hS => ?_)
  have hP : va_P (dC, dI) vwCl [(h0, .inr (1, [.ref p0, .ref q6, .ref q15, .ref q24, .ref q32, .ref q40, .int 0, .ref q47, .int 0, .int 0])), (q6, .inl (cI, 4, .inl (fun _ => 0))), (q15, .inl (cI, 1323, .inl (fun _ => 0))), (q24, .inl (cI, 144, .inl (fun _ => 0))), (q32, .inl (cI, 9, .inl (fun _ => 0))), (q40, .inl (cI, 48, .inl (fun _ => 0))), (q47, .inl (cI, 3, .inl (fun _ => 0)))] H := hP
  have hD : va_D A [(h0, .inr (1, [.ref p0, .ref q6, .ref q15, .ref q24, .ref q32, .ref q40, .int 0, .ref q47, .int 0, .int 0])), (q6, .inl (cI, 4, .inl (fun _ => 0))), (q15, .inl (cI, 1323, .inl (fun _ => 0))), (q24, .inl (cI, 144, .inl (fun _ => 0))), (q32, .inl (cI, 9, .inl (fun _ => 0))), (q40, .inl (cI, 48, .inl (fun _ => 0))), (q47, .inl (cI, 3, .inl (fun _ => 0)))] := hD
  exact W.vret hx hb hr (fun t1 ht hW => ⟨⟨fun k => ([q6, q15, q24, q32, q40, q47] : List Nat).getD k 0, rfl, trivial, by rw [ht]; exact hP, hD⟩, hS.F ht⟩) hS.2.2 dX1_init_57
