/-! calls over a component -/
def jPi (p : Int → jMem → Prop) : Option Value → jMem → Prop := fun r S' => ∃ v : Int, r = some (.int (iI v)) ∧ p v S'
def jPl (p : Int → jMem → Prop) : Option Value → jMem → Prop := fun r S' => ∃ v : Int, r = some (.long (iL v)) ∧ p v S'
def jPv (p : jMem → Prop) : Option Value → jMem → Prop := fun r S' => r = none ∧ p S'
/-- what a call needs of the tables: of the method called -/
def jcal (y : MethodName) (bc : ByteArray) (nL : Nat) (ret : Option FieldType) (n : Nat) : Prop := Cond.code y bc nL ret ∈ lw_good ∧ Cond.initialized y.cls ∈ lw_good ∧ (y.cls ≠ "java/lang/invoke/MethodHandle" ∧ y.cls ≠ "java/lang/invoke/VarHandle" ∧ (parseMethodDescriptor y.desc).map (fun d => d.parameters.length) = some n)
def jcalV (y : MethodName) (bc : ByteArray) (nL : Nat) (ret : Option FieldType) (n : Nat) : Prop := jcal y bc nL ret n ∧ Cond.instanceMethod y ∈ lw_good ∧ Cond.selects y.cls y y ∈ lw_good
def jcalS (y : MethodName) (bc : ByteArray) (nL : Nat) (ret : Option FieldType) (n : Nat) : Prop := jcal y bc nL ret n ∧ Cond.static y ∈ lw_good
theorem jgood {y : MethodName} {bc : ByteArray} {nL n : Nat} {ret : Option FieldType} (h : jcal y bc nL ret n) : GoodIn lw_good (.code y bc nL ret :: lw_good) := by
  intro w hw
  rcases List.mem_cons.mp hw with rfl | hw
  · exact ⟨h.1, good_of_word (List.mem_filter.mp h.1).2⟩
  · exact ⟨hw, good_of_word (List.mem_filter.mp hw).2⟩
section JC
variable {E : jEnv} {G : jG} {cc : ByteArray} {nL : Nat} {own : String} {fr lo : Nat} {pc : Nat} {lv lv' : List (Nat × Value)} {st rest : List Value} {S : jMem} {ret : Option FieldType} {post : Option Value → jMem → Prop}
theorem J_run {a : Array Value} (hr : ∀ (H : Heap) (locs : List Loc) (ls : Array Slot), lv_has ls E.2.2.2.2.2.2.2.2.1.maxLocals lv → va_P (jD G) vwCl (jws G S) H → va_S (jA G) E.2.2.2.1.heap H locs →
      va_Run E.1 (jl G) E.2.1 E.2.2.1 E.2.2.2.1 E.2.2.2.2.1 E.2.2.2.2.2.1 E.2.2.2.2.2.2.1 E.2.2.2.2.2.2.2.1 E.2.2.2.2.2.2.2.2.1 H locs E.2.2.2.2.2.2.2.2.2.1 E.2.2.2.2.2.2.2.2.2.2.1 0 0 (F0 E.2.2.2.2.1 pc ls st) rest (jQ G post a) (jA G))
    (kk : ∀ (r : Option Value) (S' : jMem), post r S' → J E G (pc + 3) lv (r.toList ++ rest) S') : J E G pc lv st S := by
  intro H locs ls hl hP hS T hT X
  obtain ⟨v, st₀, t, T', L, h0, X', hL, e1, e2, ⟨⟨r, S', hv, hp, hP1⟩, hz, hk⟩, go⟩ := hr H locs ls hl hP hS T hT X
  cases hv
  rw [h0] at hz hk
  have hS1 : va_S (jA G) E.2.2.2.1.heap t.heap (locs ++ L) := ⟨Nat.le_trans hS.1 hz, fun q h1 h2 => by rw [hk q (Nat.lt_of_lt_of_le h1 hS.1) h2]; exact hS.2.1 q h1 h2, fun q hq => by
    rcases List.mem_append.mp hq with h | h
    · exact hS.2.2 q h
    · exact hL q h⟩
  obtain ⟨t2, a1, b1⟩ := kk v S' hp t.heap (locs ++ L) ls hl hP1 hS1 T' e1 X'
  exact ⟨t2, go t2 a1, b1⟩
theorem J_callV (C : jX E G cc nL own fr lo) {y : MethodName} {bc : ByteArray} {nL' n fr' lo' k ci idx N : Nat} {ret' : Option FieldType} {T : u_T} {fl : List Nat} {As : List Value} (hM : jM G y bc nL' ret' fr' lo' (.ref (jad G k) :: As) S post) (hw : jcalV y bc nL' ret' n) (hl' : Cond.methodLink own idx y ∈ lw_good) (hk : k < jn G) (hsh : jsh G k = .inl (ci, fl)) (hc : vwCl[ci]? = some (y.cls, T, N))
    (hd : decode cc pc = .ok (.invokevirtual idx, 3)) (hn : As.length = n) (hst : st = As.reverse ++ .ref (jad G k) :: rest) (hrm : fr' + 1 ≤ fr ∧ 8 + (nL' + 11) + lo' ≤ lo) (hcat : (rest.map fun v => v.category).sum ≤ 8)
    (kk : ∀ (r : Option Value) (S' : jMem), post r S' → J E G (pc + 3) lv (r.toList ++ rest) S') : J E G pc lv st S := by
  refine J_run (a := (Value.ref (jad G k) :: As).toArray) (fun H locs ls hl hP hS => ?_) kk
  obtain ⟨hx, hb, hml, hown, hts, hK, hT, hI, hfr, hlo, hce, hsl⟩ := C
  have he := jws_get G S hk
  rw [hsh] at he
  refine va_runV (C := y.cls) (As := As) (rest := rest) ⟨hx, hb, rfl, hown, hts⟩ hM ⟨callB_of n hts (jgood hw.1) rfl rfl rfl (hts _ hw.1.2.1) (hts _ hl') hw.1.2.2 ⟨by show fr' + 1 ≤ _; omega, by show 8 + (nL' + 11) + lo' ≤ _; omega⟩, hts _ hw.2.1, hts _ hw.2.2⟩ ⟨jW.blind, va_recv hK hP hc he, fun U hU hW => ⟨rfl, by rw [hU]; exact hP, va_K.moved hW.alike hK, ?_, hI⟩⟩ rfl hn hl.1 hst (lv_room hcat) hd ⟨hce, hsl⟩
  rw [hU]
  exact (hT.kept hS.2.1).moved hW
theorem J_callS (C : jX E G cc nL own fr lo) {y : MethodName} {bc : ByteArray} {nL' n fr' lo' idx : Nat} {ret' : Option FieldType} {As : List Value} (hM : jM G y bc nL' ret' fr' lo' As S post) (hw : jcalS y bc nL' ret' n) (hl' : Cond.methodLink own idx y ∈ lw_good)
    (hd : decode cc pc = .ok (.invokestatic idx, 3)) (hn : As.length = n) (hst : st = As.reverse ++ rest) (hrm : fr' + 1 ≤ fr ∧ 8 + (nL' + 11) + lo' ≤ lo) (hcat : (rest.map fun v => v.category).sum ≤ 8)
    (kk : ∀ (r : Option Value) (S' : jMem), post r S' → J E G (pc + 3) lv (r.toList ++ rest) S') : J E G pc lv st S := by
  refine J_run (a := As.toArray) (fun H locs ls hl hP hS => ?_) kk
  obtain ⟨hx, hb, hml, hown, hts, hK, hT, hI, hfr, hlo, hce, hsl⟩ := C
  refine va_runS (As := As) (rest := rest) ⟨hx, hb, rfl, hown, hts⟩ hM ⟨callB_of n hts (jgood hw.1) rfl rfl rfl (hts _ hw.1.2.1) (hts _ hl') hw.1.2.2 ⟨by show fr' + 1 ≤ _; omega, by show 8 + (nL' + 11) + lo' ≤ _; omega⟩, hts _ hw.2⟩ ⟨jW.blind, fun U hU hW => ⟨rfl, by rw [hU]; exact hP, va_K.moved hW.alike hK, ?_, hI⟩⟩ rfl hn hl.1 hst (lv_room hcat) hd ⟨hce, hsl⟩
  rw [hU]
  exact (hT.kept hS.2.1).moved hW
theorem J_callN (C : jX E G cc nL own fr lo) {y : MethodName} {bc : ByteArray} {nL' n fr' lo' idx : Nat} {ret' : Option FieldType} {As : List Value} (hM : jM G y bc nL' ret' fr' lo' As S post) (hw : jcalS y bc nL' ret' n) {host : String} (hl' : Cond.methodLinkNest own idx y host ∈ jnest)
    (hd : decode cc pc = .ok (.invokestatic idx, 3)) (hn : As.length = n) (hst : st = As.reverse ++ rest) (hrm : fr' + 1 ≤ fr ∧ 8 + (nL' + 11) + lo' ≤ lo) (hcat : (rest.map fun v => v.category).sum ≤ 8)
    (kk : ∀ (r : Option Value) (S' : jMem), post r S' → J E G (pc + 3) lv (r.toList ++ rest) S') : J E G pc lv st S := by
  refine J_run (a := As.toArray) (fun H locs ls hl hP hS => ?_) kk
  obtain ⟨hx, hb, hml, hown, hts, hK, hT, hI, hfr, hlo, hce, hsl⟩ := C
  refine va_runSN (As := As) (rest := rest) (host := host) ⟨hx, hb, rfl, hown, hts⟩ hM ⟨va_cnB n hts (jgood hw.1) rfl rfl rfl (hT.2.2 _ hl') (hts _ hw.1.2.1) hw.1.2.2 ⟨by show fr' + 1 ≤ _; omega, by show 8 + (nL' + 11) + lo' ≤ _; omega⟩, hts _ hw.2, trivial⟩ ⟨jW.blind, fun U hU hW => ⟨rfl, by rw [hU]; exact hP, va_K.moved hW.alike hK, ?_, hI⟩⟩ rfl hn hl.1 hst (lv_room hcat) hd ⟨hce, hsl⟩
  rw [hU]
  exact (hT.kept hS.2.1).moved hW
/-- what stands on the stack behind a call -/
theorem J_ki {p : Int → jMem → Prop} (kk : ∀ (v : Int) (S' : jMem), p v S' → J E G pc lv (.int (iI v) :: rest) S') : ∀ (r : Option Value) (S' : jMem), jPi p r S' → J E G pc lv (r.toList ++ rest) S' := by
  rintro r S' ⟨v, rfl, h⟩
  exact kk v S' h
theorem J_kl {p : Int → jMem → Prop} (kk : ∀ (v : Int) (S' : jMem), p v S' → J E G pc lv (.long (iL v) :: rest) S') : ∀ (r : Option Value) (S' : jMem), jPl p r S' → J E G pc lv (r.toList ++ rest) S' := by
  rintro r S' ⟨v, rfl, h⟩
  exact kk v S' h
theorem J_kv {p : jMem → Prop} (kk : ∀ (S' : jMem), p S' → J E G pc lv rest S') : ∀ (r : Option Value) (S' : jMem), jPv p r S' → J E G pc lv (r.toList ++ rest) S' := by
  rintro r S' ⟨rfl, h⟩
  exact kk S' h
end JC
theorem jPi.mk {p : Int → jMem → Prop} {v : Int} {S : jMem} (h : p v S) : jPi p (some (.int (iI v))) S := ⟨v, rfl, h⟩
theorem jPl.mk {p : Int → jMem → Prop} {v : Int} {S : jMem} (h : p v S) : jPl p (some (.long (iL v))) S := ⟨v, rfl, h⟩
theorem jPv.mk {p : jMem → Prop} {S : jMem} (h : p S) : jPv p none S := ⟨rfl, h⟩
/-- a contract's end may be told weaker -/
theorem jM.mono {G : jG} {y : MethodName} {cc : ByteArray} {nL : Nat} {ret : Option FieldType} {fr lo : Nat} {av : List Value} {S : jMem} {post post' : Option Value → jMem → Prop} (h : jM G y cc nL ret fr lo av S post) (hp : ∀ r S', post r S' → post' r S') : jM G y cc nL ret fr lo av S post' := by
  intro p e ha hc hk s m args below hf happ hP hK
  obtain ⟨n, o, h1, h2, h3, ⟨⟨r, S', a1, a2, a3⟩, a4⟩, a5⟩ := h p e ha hc hk s m args below hf happ hP hK
  exact ⟨n, o, h1, h2, h3, ⟨⟨r, S', a1, hp _ _ a2, a3⟩, a4⟩, a5⟩
