/-! making: a constructor's world grows; the classes of arrays are known -/
set_option maxRecDepth 50000 in
theorem kz_X5 : Cond.initialized RX5 ∈ lw_good := lw_good_of (List.mem_of_getElem? (i := 62) rfl) rfl
set_option maxRecDepth 50000 in
theorem kz_X4 : Cond.initialized RX4 ∈ lw_good := lw_good_of (List.mem_of_getElem? (i := 63) rfl) rfl
set_option maxRecDepth 50000 in
theorem kz_X3 : Cond.initialized RX3 ∈ lw_good := lw_good_of (List.mem_of_getElem? (i := 64) rfl) rfl
set_option maxRecDepth 50000 in
theorem kz_X2 : Cond.initialized RX2 ∈ lw_good := lw_good_of (List.mem_of_getElem? (i := 65) rfl) rfl
set_option maxRecDepth 50000 in
theorem kz_X0 : Cond.initialized RX0 ∈ lw_good := lw_good_of (List.mem_of_getElem? (i := 66) rfl) rfl
set_option maxRecDepth 50000 in
theorem kz_X1 : Cond.initialized RX1 ∈ lw_good := lw_good_of (List.mem_of_getElem? (i := 67) rfl) rfl
set_option maxRecDepth 50000 in
theorem kz_X6 : Cond.initialized RX6 ∈ lw_good := lw_good_of (List.mem_of_getElem? (i := 68) rfl) rfl
set_option maxRecDepth 50000 in
theorem kn_L_7 : Cond.classLink RL 7 RX5 ∈ lw_good := lw_good_of (List.mem_of_getElem? (i := 71) rfl) rfl
set_option maxRecDepth 50000 in
theorem kb_X5 : Cond.instantiable RX5 5 ∈ lw_good := lw_good_of (List.mem_of_getElem? (i := 72) rfl) rfl
set_option maxRecDepth 50000 in
theorem ki_X5_init : jcal yX5_init cX5_init 1 none 0 ∧ Cond.instanceMethod yX5_init ∈ lw_good := ⟨⟨lw_good_of (List.mem_of_getElem? (i := 75) rfl) rfl, lw_good_of (List.mem_of_getElem? (i := 62) rfl) rfl, by decide +kernel, by decide +kernel, by decide +kernel⟩, lw_good_of (List.mem_of_getElem? (i := 74) rfl) rfl⟩
set_option maxRecDepth 50000 in
theorem ko_im : Cond.instanceMethod objectInit ∈ lw_good := lw_good_of (List.mem_of_getElem? (i := 77) rfl) rfl
set_option maxRecDepth 50000 in
theorem ko_code : Cond.code objectInit ⟨#[0xb1]⟩ 1 none ∈ lw_good := lw_good_of (List.mem_of_getElem? (i := 78) rfl) rfl
set_option maxRecDepth 50000 in
theorem kn_X5_9 : Cond.classLink RX5 9 RX4 ∈ lw_good := lw_good_of (List.mem_of_getElem? (i := 79) rfl) rfl
set_option maxRecDepth 50000 in
theorem kb_X4 : Cond.instantiable RX4 5 ∈ lw_good := lw_good_of (List.mem_of_getElem? (i := 80) rfl) rfl
set_option maxRecDepth 50000 in
theorem ki_X4_init : jcal yX4_init cX4_init 1 none 0 ∧ Cond.instanceMethod yX4_init ∈ lw_good := ⟨⟨lw_good_of (List.mem_of_getElem? (i := 83) rfl) rfl, lw_good_of (List.mem_of_getElem? (i := 63) rfl) rfl, by decide +kernel, by decide +kernel, by decide +kernel⟩, lw_good_of (List.mem_of_getElem? (i := 82) rfl) rfl⟩
set_option maxRecDepth 50000 in
theorem ka_int : Cond.arrayClass .int ∈ lw_good := lw_good_of (List.mem_of_getElem? (i := 110) rfl) rfl
set_option maxRecDepth 50000 in
theorem kn_X5_16 : Cond.classLink RX5 16 RX3 ∈ lw_good := lw_good_of (List.mem_of_getElem? (i := 111) rfl) rfl
set_option maxRecDepth 50000 in
theorem kb_X3 : Cond.instantiable RX3 16 ∈ lw_good := lw_good_of (List.mem_of_getElem? (i := 112) rfl) rfl
set_option maxRecDepth 50000 in
theorem ki_X3_init : jcal yX3_init cX3_init 2 none 1 ∧ Cond.instanceMethod yX3_init ∈ lw_good := ⟨⟨lw_good_of (List.mem_of_getElem? (i := 115) rfl) rfl, lw_good_of (List.mem_of_getElem? (i := 64) rfl) rfl, by decide +kernel, by decide +kernel, by decide +kernel⟩, lw_good_of (List.mem_of_getElem? (i := 114) rfl) rfl⟩
set_option maxRecDepth 50000 in
theorem kn_X5_25 : Cond.classLink RX5 25 RX2 ∈ lw_good := lw_good_of (List.mem_of_getElem? (i := 171) rfl) rfl
set_option maxRecDepth 50000 in
theorem kb_X2 : Cond.instantiable RX2 5 ∈ lw_good := lw_good_of (List.mem_of_getElem? (i := 172) rfl) rfl
set_option maxRecDepth 50000 in
theorem ki_X2_init : jcal yX2_init cX2_init 2 none 1 ∧ Cond.instanceMethod yX2_init ∈ lw_good := ⟨⟨lw_good_of (List.mem_of_getElem? (i := 175) rfl) rfl, lw_good_of (List.mem_of_getElem? (i := 65) rfl) rfl, by decide +kernel, by decide +kernel, by decide +kernel⟩, lw_good_of (List.mem_of_getElem? (i := 174) rfl) rfl⟩
set_option maxRecDepth 50000 in
theorem kn_X5_32 : Cond.classLink RX5 32 RX0 ∈ lw_good := lw_good_of (List.mem_of_getElem? (i := 198) rfl) rfl
set_option maxRecDepth 50000 in
theorem kb_X0 : Cond.instantiable RX0 3 ∈ lw_good := lw_good_of (List.mem_of_getElem? (i := 199) rfl) rfl
set_option maxRecDepth 50000 in
theorem ki_X0_init : jcal yX0_init cX0_init 2 none 1 ∧ Cond.instanceMethod yX0_init ∈ lw_good := ⟨⟨lw_good_of (List.mem_of_getElem? (i := 202) rfl) rfl, lw_good_of (List.mem_of_getElem? (i := 66) rfl) rfl, by decide +kernel, by decide +kernel, by decide +kernel⟩, lw_good_of (List.mem_of_getElem? (i := 201) rfl) rfl⟩
set_option maxRecDepth 50000 in
theorem kn_X5_41 : Cond.classLink RX5 41 RX1 ∈ lw_good := lw_good_of (List.mem_of_getElem? (i := 215) rfl) rfl
set_option maxRecDepth 50000 in
theorem kb_X1 : Cond.instantiable RX1 10 ∈ lw_good := lw_good_of (List.mem_of_getElem? (i := 216) rfl) rfl
set_option maxRecDepth 50000 in
theorem ki_X1_init : jcal yX1_init cX1_init 2 none 1 ∧ Cond.instanceMethod yX1_init ∈ lw_good := ⟨⟨lw_good_of (List.mem_of_getElem? (i := 219) rfl) rfl, lw_good_of (List.mem_of_getElem? (i := 67) rfl) rfl, by decide +kernel, by decide +kernel, by decide +kernel⟩, lw_good_of (List.mem_of_getElem? (i := 218) rfl) rfl⟩
set_option maxRecDepth 50000 in
theorem kn_L_10 : Cond.classLink RL 10 RX6 ∈ lw_good := lw_good_of (List.mem_of_getElem? (i := 668) rfl) rfl
set_option maxRecDepth 50000 in
theorem kb_X6 : Cond.instantiable RX6 27 ∈ lw_good := lw_good_of (List.mem_of_getElem? (i := 669) rfl) rfl
set_option maxRecDepth 50000 in
theorem ki_X6_init : jcal yX6_init cX6_init 1 none 0 ∧ Cond.instanceMethod yX6_init ∈ lw_good := ⟨⟨lw_good_of (List.mem_of_getElem? (i := 672) rfl) rfl, lw_good_of (List.mem_of_getElem? (i := 68) rfl) rfl, by decide +kernel, by decide +kernel, by decide +kernel⟩, lw_good_of (List.mem_of_getElem? (i := 671) rfl) rfl⟩
set_option maxRecDepth 50000 in
theorem ka_boolean : Cond.arrayClass .boolean ∈ lw_good := lw_good_of (List.mem_of_getElem? (i := 795) rfl) rfl
set_option maxRecDepth 50000 in
theorem ko_X5 : Cond.methodLink RX5 3 objectInit ∈ lw_good := lw_good_of (List.mem_of_getElem? (i := 76) rfl) rfl
set_option maxRecDepth 50000 in
theorem kl_X5_18 : Cond.methodLink RX5 18 yX3_init ∈ lw_good := lw_good_of (List.mem_of_getElem? (i := 113) rfl) rfl
set_option maxRecDepth 50000 in
theorem kl_X5_27 : Cond.methodLink RX5 27 yX2_init ∈ lw_good := lw_good_of (List.mem_of_getElem? (i := 173) rfl) rfl
set_option maxRecDepth 50000 in
theorem kl_X5_34 : Cond.methodLink RX5 34 yX0_init ∈ lw_good := lw_good_of (List.mem_of_getElem? (i := 200) rfl) rfl
set_option maxRecDepth 50000 in
theorem kl_X5_43 : Cond.methodLink RX5 43 yX1_init ∈ lw_good := lw_good_of (List.mem_of_getElem? (i := 217) rfl) rfl
set_option maxRecDepth 50000 in
theorem ko_X0 : Cond.methodLink RX0 3 objectInit ∈ lw_good := lw_good_of (List.mem_of_getElem? (i := 203) rfl) rfl
set_option maxRecDepth 50000 in
theorem ko_X1 : Cond.methodLink RX1 3 objectInit ∈ lw_good := lw_good_of (List.mem_of_getElem? (i := 220) rfl) rfl
set_option maxRecDepth 50000 in
theorem ko_X2 : Cond.methodLink RX2 3 objectInit ∈ lw_good := lw_good_of (List.mem_of_getElem? (i := 176) rfl) rfl
set_option maxRecDepth 50000 in
theorem ko_X3 : Cond.methodLink RX3 3 objectInit ∈ lw_good := lw_good_of (List.mem_of_getElem? (i := 116) rfl) rfl
set_option maxRecDepth 50000 in
theorem ko_X4 : Cond.methodLink RX4 3 objectInit ∈ lw_good := lw_good_of (List.mem_of_getElem? (i := 84) rfl) rfl
set_option maxRecDepth 50000 in
theorem kl_L_9 : Cond.methodLink RL 9 yX5_init ∈ lw_good := lw_good_of (List.mem_of_getElem? (i := 73) rfl) rfl
set_option maxRecDepth 50000 in
theorem kl_L_12 : Cond.methodLink RL 12 yX6_init ∈ lw_good := lw_good_of (List.mem_of_getElem? (i := 670) rfl) rfl
set_option maxRecDepth 50000 in
theorem ko_X6 : Cond.methodLink RX6 1 objectInit ∈ lw_good := lw_good_of (List.mem_of_getElem? (i := 673) rfl) rfl

theorem jst.narrow {G : jG} {A B : Nat → Prop} {U : State} {H : Heap} (h : jst G A U H) (hAB : ∀ q, B q → A q) : jst G B U H := ⟨h.1.narrow hAB, h.2.1.narrow hAB, h.2.2⟩
section NW
variable {p : Program} {l : Launch} {e : Env} {R : Room} {s : State} {m : MethodId} {args : Array Value} {below : List Frame} {meth : Method} {c : Code} {H : Heap} {locs : List Loc} {cells slots : Nat} {Q : State → Prop}
variable {cc : ByteArray} {pc : Nat} {ls : Array Slot} {rest : List Value} {D : va_G} {cl : List vw_C} {A : Nat → Prop} {a : Nat} {tys : List (ClassId × FieldType)} {ws : va_W} {H0 : Heap}
/-- a new array, of a class that is known -/
theorem n_newa (hexec : p.tables.exec = Jvm.exec) (hb : c.code = cc) {atype : ArrayType} (harr : (Cond.arrayClass (newarray.typeOf atype)).before args s = true) {ty : FieldType} (hty : newarray.typeOf atype = ty) (hp : ty = .int ∨ ty = .boolean) (hK : va_K D cl tys s) (t0 : Nat) {cX : ClassId} (ht : tys[t0]? = some (cX, ty)) (hP : va_P D cl ws H) (hD : va_D A ws) (hS : va_S A H0 H locs) (hA : ∀ q, H0.size ≤ q → A q)
    {n : Int32} {N' : Nat} {a0 : vp_A} (ha : ∀ cA : ClassId, vp_cell cA a0 = arrV cA N' (fun _ => defaultValue ty)) (hn : ¬ n < 0) (hN : n.toNatClampNeg = N') (hbytes : N' * componentBytes ty ≤ 536870912) (hcells : cells + 1 ≤ R.cells) (hslots : slots + N' ≤ R.slots) (hdg : decode cc pc = .ok (.newarray atype, 2))
    (kk : ∀ (q : Nat) (H1 : Heap), va_P D cl (ws ++ [(q, .inl (cX, a0))]) H1 → va_D A (ws ++ [(q, .inl (cX, a0))]) → va_S A H0 H1 locs →
      W p l e R s m args below meth c H1 locs (cells + 1) (slots + N') Q (F0 m (pc + 2) ls (.ref q :: rest))) : W p l e R s m args below meth c H locs cells slots Q (F0 m pc ls (.int n :: rest)) := by
  refine va_newa hexec hb harr hty hK hP hD hS hA ha hn hN hbytes hcells hslots hdg (fun q cA H1 hK1 hP1 hD1 hS1 => ?_)
  have e : cA = cX := by
    have h1 := (hK.2 t0 _ ht).2
    have h2 := (hK1.2 tys.length (cA, ty) (by rw [List.getElem?_append_right (Nat.le_refl _), Nat.sub_self]; rfl)).2
    rcases hp with rfl | rfl
    · have h1 : s.vm.findClass ("[" ++ FieldType.int.toString) = some cX := h1
      have h2 : s.vm.findClass ("[" ++ FieldType.int.toString) = some cA := h2
      exact Option.some.inj (h2.symm.trans h1)
    · have h1 : s.vm.findClass ("[" ++ FieldType.boolean.toString) = some cX := h1
      have h2 : s.vm.findClass ("[" ++ FieldType.boolean.toString) = some cA := h2
      exact Option.some.inj (h2.symm.trans h1)
  subst e
  exact kk q H1 hP1 hD1 hS1
/-- behind a call over a component, in a larger world -/
theorem n_runJ {G : jG} {post : Option Value → jMem → Prop} {av : Array Value} {st0 : List Value} (hr : va_Run p l e R s m args below meth c H locs cells slots 0 0 (F0 m pc ls st0) rest (jQ G post av) (jA G)) (hS : va_S A H0 H locs) (hA : ∀ q, jA G q → A q)
    (kk : ∀ (r : Option Value) (S' : jMem) (H1 : Heap) (locs1 : List Loc), post r S' → va_P (jD G) vwCl (jws G S') H1 → H.size ≤ H1.size → (∀ q : Nat, q < H.size → ¬ jA G q → H1[q]? = H[q]?) → va_S A H0 H1 locs1 → W p l e R s m args below meth c H1 locs1 cells slots Q (F0 m (pc + 3) ls (r.toList ++ rest))) : W p l e R s m args below meth c H locs cells slots Q (F0 m pc ls st0) := by
  intro T hT X
  obtain ⟨v, st₀, t, T', L, h0, X', hL, e1, e2, ⟨⟨r, S', hv, hp, hP1⟩, hz, hk⟩, go⟩ := hr T hT X
  cases hv
  rw [h0] at hz hk
  have hS1 : va_S A H0 t.heap (locs ++ L) := ⟨Nat.le_trans hS.1 hz, fun q h1 h2 => by rw [hk q (Nat.lt_of_lt_of_le h1 hS.1) (fun z => h2 (hA q z))]; exact hS.2.1 q h1 h2, fun q hq => by
    rcases List.mem_append.mp hq with h | h
    · exact hS.2.2 q h
    · exact hA _ (hL q h)⟩
  obtain ⟨t2, a1, b1⟩ := kk v S' t.heap (locs ++ L) hp hP1 hz hk hS1 T' e1 X'
  exact ⟨t2, go t2 a1, b1⟩
theorem n_callV {G : jG} {S : jMem} {post : Option Value → jMem → Prop} {own : String} {nL : Nat} (hx : p.tables.exec = Jvm.exec) (hb : c.code = cc) (hml : c.maxLocals = nL) (hown : s.vm.findClass own = some m.cls) (hts : ∀ w ∈ lw_good, w.before args s = true) (hK : va_K (jD G) vwCl (jtys G) s) (hT : jst G A s s.heap) (hI : jinj G) (hA : ∀ q, jA G q → A q)
    {y : MethodName} {bc : ByteArray} {nL' n fr' lo' k ci idx N : Nat} {ret' : Option FieldType} {T : u_T} {fl : List Nat} {As st : List Value} (hM : jM G y bc nL' ret' fr' lo' (.ref (jad G k) :: As) S post) (hw : jcalV y bc nL' ret' n) (hl' : Cond.methodLink own idx y ∈ lw_good) (hk : k < jn G) (hsh : jsh G k = .inl (ci, fl)) (hc : vwCl[ci]? = some (y.cls, T, N))
    (hd : decode cc pc = .ok (.invokevirtual idx, 3)) (hn : As.length = n) (hst : st = As.reverse ++ .ref (jad G k) :: rest) (hrm : fr' + 1 ≤ R.frames ∧ 8 + (nL' + 11) + lo' ≤ R.locals) (hce : cells ≤ R.cells ∧ slots ≤ R.slots) (hcat : (rest.map fun v => v.category).sum ≤ 8) (hls : ls.size = nL)
    (hP : va_P (jD G) vwCl (jws G S) H) (hS : va_S A s.heap H locs)
    (kk : ∀ (r : Option Value) (S' : jMem) (H1 : Heap) (locs1 : List Loc), post r S' → va_P (jD G) vwCl (jws G S') H1 → H.size ≤ H1.size → (∀ q : Nat, q < H.size → ¬ jA G q → H1[q]? = H[q]?) → va_S A s.heap H1 locs1 → W p (jl G) e R s m args below meth c H1 locs1 cells slots Q (F0 m (pc + 3) ls (r.toList ++ rest))) : W p (jl G) e R s m args below meth c H locs cells slots Q (F0 m pc ls st) := by
  have he := jws_get G S hk
  rw [hsh] at he
  refine n_runJ (av := (Value.ref (jad G k) :: As).toArray) (va_runV (C := y.cls) (As := As) (rest := rest) ⟨hx, hb, hml, hown, hts⟩ hM ⟨callB_of n hts (jgood hw.1) rfl rfl rfl (hts _ hw.1.2.1) (hts _ hl') hw.1.2.2 ⟨hrm.1, hrm.2⟩, hts _ hw.2.1, hts _ hw.2.2⟩ ⟨jW.blind, va_recv hK hP hc he, fun U hU hW => ⟨rfl, by rw [hU]; exact hP, va_K.moved hW.alike hK, ?_, hI⟩⟩ rfl hn hls hst (lv_room hcat) hd hce) hS hA kk
  rw [hU]
  exact ((hT.kept hS.2.1).narrow hA).moved hW
end NW
/-- the first lengths -/
def ten (j : Int) : Int := if 0 ≤ j ∧ j < 3 then 10 else 0
/-- the memory as it is made: lengths in cell c, else nothing -/
def z0 (c : Nat) : jMem := fun k j => if k = c then ten j else 0
def n10 : Nat → Int32 := fun j => iI (ten j)
theorem n10_eq : upd (upd (upd (fun _ => (0 : Int32)) (iI 0).toNatClampNeg (iI 10)) (iI 1).toNatClampNeg (iI 10)) (iI 2).toNatClampNeg (iI 10) = n10 := by
  funext j
  have e0 : (iI 0).toNatClampNeg = 0 := by decide
  have e1 : (iI 1).toNatClampNeg = 1 := by decide
  have e2 : (iI 2).toNatClampNeg = 2 := by decide
  rw [e0, e1, e2]
  unfold upd n10 ten
  by_cases h2 : j = 2
  · subst h2; rfl
  · by_cases h1 : j = 1
    · subst h1; rfl
    · by_cases h0 : j = 0
      · subst h0; rfl
      · rw [if_neg h2, if_neg h1, if_neg h0, if_neg (by omega)]; rfl
theorem z_ok : sOK 0 ten (fun _ => 0) (fun _ => 0) (fun _ => 0) := by
  refine ⟨⟨by decide, by decide⟩, fun a h0 h1 => ?_, fun i _ _ => ?_, fun i h0 h1 => absurd h0 (by omega), fun b _ _ => ?_, fun b h0 h1 => absurd h0 (by omega), fun b _ _ => ?_⟩
  · unfold ten
    rw [if_pos ⟨h0, h1⟩]
    decide
  · show (0 : Int) ≤ 0 ∧ (0 : Int) ≤ 20
    decide
  · show (0 : Int) ≤ 0 ∧ (0 : Int) ≤ 63
    decide
  · show (0 : Int) ≤ 0 ∧ (0 : Int) ≤ 1000
    decide
theorem z0_c : cOK (z0 2) := z_ok
theorem z0_m : mOK (z0 1) := z_ok
/-- a constructor's start -/
def nW (dC : Nat → ClassId) (dI : Nat → Nat → Nat) (cI cZ : ClassId) (sz : Nat) (ws : va_W) (U : State) : Prop := U.heap.size = sz ∧ va_P (dC, dI) vwCl ws U.heap ∧ va_K (dC, dI) vwCl [(cI, .int), (cZ, .boolean)] U ∧ va_D (fun _ => True) ws
theorem nW.blind {dC : Nat → ClassId} {dI : Nat → Nat → Nat} {cI cZ : ClassId} {sz : Nat} {ws : va_W} {av : List Value} : FrameBlind (va_Pc av (nW dC dI cI cZ sz ws)) := fun a U g mk q => by
  obtain ⟨q0, q1, qP, qK, qD⟩ := q
  exact ⟨q0, q1, qP, va_K.moved (u := U) (U := U.calling g mk a) (Vm.Alike.refl U.vm) qK, qD⟩
abbrev nG (l : Launch) (dC : Nat → ClassId) (dI : Nat → Nat → Nat) (cI cZ : ClassId) (t : Nat) (ad : Nat → Nat) : jG := (l, csh, 32, dC, dI, cI, cZ, ad, t)
abbrev nK (l : Launch) (dC : Nat → ClassId) (dI : Nat → Nat → Nat) (cI cZ : ClassId) (t : Nat) (ad : Nat → Nat) : jG := (l, msh, 22, dC, dI, cI, cZ, ad, t)
theorem jinj_of {A : Nat → Prop} {G : jG} {S : jMem} (h : va_D A (jws G S)) : jinj G := fun i j hi hj e => h.1 i j _ _ (jws_get G S hi) (jws_get G S hj) e
theorem jA_in {A : Nat → Prop} {G : jG} {S : jMem} (h : va_D A (jws G S)) : ∀ q, jA G q → A q := by
  rintro q ⟨k, hk, rfl⟩
  exact h.2 k _ (jws_get G S hk)
theorem jD_S {A : Nat → Prop} {G : jG} {S : jMem} (S' : jMem) (h : va_D A (jws G S)) : va_D A (jws G S') := by
  have h1 := jA_in h
  exact (jD_of G S' (jinj_of h)).weaken (fun k q _ hq => h1 _ hq)
/-- with the class's table -/
def nWT (G : jG) (dC : Nat → ClassId) (dI : Nat → Nat → Nat) (cI cZ : ClassId) (sz : Nat) (ws : va_W) (nw : Prop → State → Prop) (U : State) : Prop := nW dC dI cI cZ sz ws U ∧ jst G (va_A ws sz) U U.heap ∧ nw True U
def nwS : Cond := .methodLinkNest "PlaceRectangles" 11 yX4_init "PlaceRectangles"
def nw5 : Prop → State → Prop := fun _ U => va_Nw nwS U
def nw6 : Prop → State → Prop := fun _ _ => True
theorem nWT.blind5 {G : jG} {dC : Nat → ClassId} {dI : Nat → Nat → Nat} {cI cZ : ClassId} {sz : Nat} {ws : va_W} {av : List Value} : FrameBlind (va_Pc av (nWT G dC dI cI cZ sz ws nw5)) := fun a U g mk q => by
  obtain ⟨q0, q1, q2, q3⟩ := q
  exact ⟨q0, (nW.blind (av := av) a U g mk ⟨q0, q1⟩).2, jst.call g mk a q2, va_Nw.same (u := U) rfl rfl q3⟩
theorem nWT.blind6 {G : jG} {dC : Nat → ClassId} {dI : Nat → Nat → Nat} {cI cZ : ClassId} {sz : Nat} {ws : va_W} {av : List Value} : FrameBlind (va_Pc av (nWT G dC dI cI cZ sz ws nw6)) := fun a U g mk q => by
  obtain ⟨q0, q1, q2, q3⟩ := q
  exact ⟨q0, (nW.blind (av := av) a U g mk ⟨q0, q1⟩).2, jst.call g mk a q2, trivial⟩

