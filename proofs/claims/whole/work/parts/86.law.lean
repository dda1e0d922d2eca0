-- names and the end of the law, as given
/-! THE CLAIM OUT OF ONE WALK OF THE LAW'S BODY. Your part is whole_start (and what it stands on); all else here is the same for every law, but numbers. -/
def R_law : String := "PlaceRectanglesLaw"
def lw_P (b : Addr) (xs : List Int32) (args : Array Value) (s : State) : Prop := args = #[.ref b] ∧ s.IntsAt b xs ∧ xs.length ≤ 384 ∧ (Jvm.Cond.and given_1 narrow_1).before args s = true
def lw_Q (_ : Array Value) (s : State) (o : Outcome) (t : State) : Prop := o = .returned (some (.int 1)) ∧ Framed s o t [] 54 5805
def lw_Z (below : List Frame) (a : Array Value) (s : State) : State → Prop := fun t => ∃ o, t.status = .running ∧ Ended t below o ∧ lw_Q a s o t
/-- the law's own end, with 1 on the stack, nothing written that was there before, its room as the claim has it -/
theorem lw_ret {p : Program} {l : Launch} {e : Env} {s : State} {m : MethodId} {below : List Frame} {meth : Method} {c : Code} {b : Nat} (hx : p.tables.exec = Jvm.exec) (hb : c.code = code) (hr : meth.sig.returnType = ret) (hlocks : meth.locks = false) {pc : Nat} {H : Heap} {ls : Array Slot} (hdg : decode code pc = .ok (.ireturn, 1)) : W p l e room_1 s m #[Value.ref b] below meth c H [] 54 5805 (lw_Z below #[Value.ref b] s) (F0 m pc ls [.int 1]) := by
  intro T hT X
  obtain ⟨fs, hret, hrun, hended, hW, hframe⟩ := X.leave (v := some (.int 1)) (hlocks := hlocks) (fun h => by rw [hr] at h; cases h)
  have hmeth' : T.vm.method? m = some meth := X.method'
  refine ⟨T.setFrames fs, ?_, .returned (some (.int 1)), hrun, hended, rfl, ⟨_, rfl⟩, hW, hframe⟩
  jvm_step X.here [X.here.top, hx, hb, hdg, hmeth', hr, ret, narrow_b1]
  (try refine ⟨rfl, ?_⟩); (try refine ⟨rfl, ?_⟩)
  first | (intro acts; rw [hret _ acts rfl rfl rfl]) | rw [hret _ _ rfl rfl rfl]
  exact Steps.refl _
/-- what holds at the law's entry: the machine, the code, the tables' words (any of lw_tbl by 'hts w (by decide +kernel)'), the script of L ints xs at the cell b, what the Statement gives of the start (any of its parts by flat_of_before) -/
def lw_At (p : Program) (s : State) (m : MethodId) (meth : Method) (c : Code) (b L : Nat) (xs : Nat → Int32) : Prop :=
  p.tables.exec = Jvm.exec ∧ c.code = code ∧ meth.sig.returnType = ret ∧ c.maxLocals = 4 ∧ s.vm.findClass R_law = some m.cls ∧ (∀ w ∈ lw_tbl, w.before #[Value.ref b] s = true) ∧ va_X b L xs s s.heap ∧ b < s.heap.size ∧ meth.locks = false ∧ (Jvm.Cond.and given_1 narrow_1).before #[Value.ref b] s = true

/-! the law over both components -/
abbrev lEnv : Type := (Program × Env × State × MethodId × List Frame × Method × Code) × (Nat × Nat × (Nat → Int32)) × (Launch × (Nat → ClassId) × (Nat → Nat → Nat) × ClassId × ClassId × Nat × (Nat → Nat) × (Nat → Nat))
abbrev eG (E : lEnv) : jG := nG E.2.2.1 E.2.2.2.1 E.2.2.2.2.1 E.2.2.2.2.2.1 E.2.2.2.2.2.2.1 E.2.2.2.2.2.2.2.1 E.2.2.2.2.2.2.2.2.1
abbrev eK (E : lEnv) : jG := nK E.2.2.1 E.2.2.2.1 E.2.2.2.2.1 E.2.2.2.2.2.1 E.2.2.2.2.2.2.1 E.2.2.2.2.2.2.2.1 E.2.2.2.2.2.2.2.2.2
def eA (E : lEnv) : Nat → Prop := fun q => E.1.2.2.1.heap.size ≤ q
abbrev eb (E : lEnv) : Nat := E.2.1.1
abbrev eL (E : lEnv) : Nat := E.2.1.2.1
/-- a number of the script -/
def xz (E : lEnv) (j : Int) : Int := (E.2.1.2.2 j.toNat).toInt
def LX (E : lEnv) : Prop := lw_At E.1.1 E.1.2.2.1 E.1.2.2.2.1 E.1.2.2.2.2.2.1 E.1.2.2.2.2.2.2 E.2.1.1 E.2.1.2.1 E.2.1.2.2 ∧ eL E ≤ 384 ∧ va_K (jD (eG E)) vwCl (jtys (eG E)) E.1.2.2.1 ∧ jst (eG E) (eA E) E.1.2.2.1 E.1.2.2.1.heap ∧ (jinj (eG E) ∧ jinj (eK E)) ∧ (∀ q, jA (eG E) q → eA E q) ∧ (∀ q, jA (eK E) q → eA E q) ∧ ∀ q, jA (eG E) q → ¬ jA (eK E) q
/-- the law, at pc with these locals and this stack, the class holding S, the model M, comes to its end -/
def LJ (E : lEnv) (pc : Nat) (lv : List (Nat × Value)) (st : List Value) (S M : jMem) : Prop :=
  ∀ (H : Heap) (locs : List Loc) (ls : Array Slot), lv_has ls 4 lv → va_P (jD (eG E)) vwCl (jws (eG E) S) H → va_P (jD (eK E)) vwCl (jws (eK E) M) H → va_S (eA E) E.1.2.2.1.heap H locs →
    W E.1.1 E.2.2.1 E.1.2.1 room_1 E.1.2.2.1 E.1.2.2.2.1 #[Value.ref E.2.1.1] E.1.2.2.2.2.1 E.1.2.2.2.2.2.1 E.1.2.2.2.2.2.2 H locs 54 5805 (lw_Z E.1.2.2.2.2.1 #[Value.ref E.2.1.1] E.1.2.2.1) (F0 E.1.2.2.2.1 pc ls st)
abbrev lvL (E : lEnv) (i : Int) : List (Nat × Value) := [(0, .ref (eb E)), (1, .ref (jad (eG E) 0)), (2, .ref (jad (eK E) 0)), (3, .int (iI i))]
section LL
variable {E : lEnv} {pc : Nat} {lv lv' : List (Nat × Value)} {st rest : List Value} {S M : jMem} {post : Option Value → jMem → Prop}
theorem LX.hbA (C : LX E) : ¬ eA E (eb E) := Nat.not_le.mpr C.1.2.2.2.2.2.2.2.1
theorem L_aload_n (C : LX E) {i : Fin 4} {x : Nat} (q : Nat) (hd : decode code pc = .ok (.aload_n i, 1)) (hq : lv[q]? = some ((i : Nat), .ref x)) (k : LJ E (pc + 1) lv (.ref x :: st) S M) : LJ E pc lv st S M := fun H locs ls hl hP hM hS => lv_aload_n C.1.1 C.1.2.1 hd rfl (lv_at hl q hq) (k H locs ls hl hP hM hS)
theorem L_iload_n (C : LX E) {i : Fin 4} {x : Int32} (q : Nat) (hd : decode code pc = .ok (.iload_n i, 1)) (hq : lv[q]? = some ((i : Nat), .int x)) (k : LJ E (pc + 1) lv (.int x :: st) S M) : LJ E pc lv st S M := fun H locs ls hl hP hM hS => lv_iload_n C.1.1 C.1.2.1 hd rfl (lv_at hl q hq) (k H locs ls hl hP hM hS)
theorem L_iconst (C : LX E) {n : Int} (hd : decode code pc = .ok (.iconst n, 1)) (k : LJ E (pc + 1) lv (.int (iI n) :: st) S M) : LJ E pc lv st S M := fun H locs ls hl hP hM hS => lv_iconst C.1.1 C.1.2.1 hd rfl (k H locs ls hl hP hM hS)
theorem L_iadd (C : LX E) {a b : Int} (hd : decode code pc = .ok (.iadd, 1)) (k : LJ E (pc + 1) lv (.int (iI (a + b)) :: st) S M) : LJ E pc lv (.int (iI b) :: .int (iI a) :: st) S M := fun H locs ls hl hP hM hS => lv_iadd C.1.1 C.1.2.1 hd (by rw [iI_add]; exact k H locs ls hl hP hM hS)
theorem L_sld (C : LX E) {j : Int} (h0 : 0 ≤ j) (h1 : j < (eL E : Int)) (hd : decode code pc = .ok (.iaload, 1)) (k : LJ E (pc + 1) lv (.int (iI (xz E j)) :: st) S M) : LJ E pc lv (.int (iI j) :: .ref (eb E) :: st) S M := fun H locs ls hl hP hM hS => by
  have h3 := C.2.1
  refine va_sld C.1.1 C.1.2.1 C.1.2.2.2.2.2.2.1 C.1.2.2.2.2.2.2.2.1 C.hbA hS (iI_in h0 h1 (by omega)) hd ?_
  have e := k H locs ls hl hP hM hS
  unfold xz at e
  rw [iI_of] at e
  rw [iI_cl h0 (by omega)]
  exact e
/-- an argument: script[i + k] -/
theorem L_arg (C : LX E) {i k : Int} (h0 : 0 ≤ i) (hk : 0 ≤ k) (h1 : i + k < (eL E : Int)) (d0 : decode code pc = .ok (.aload_n 0, 1)) (d1 : decode code (pc + 1) = .ok (.iload_n 3, 1)) (d2 : decode code (pc + 1 + 1) = .ok (.iconst k, 1)) (d3 : decode code (pc + 1 + 1 + 1) = .ok (.iadd, 1)) (d4 : decode code (pc + 1 + 1 + 1 + 1) = .ok (.iaload, 1))
    (kk : LJ E (pc + 1 + 1 + 1 + 1 + 1) (lvL E i) (.int (iI (xz E (i + k))) :: st) S M) : LJ E pc (lvL E i) st S M :=
  L_aload_n C 0 d0 rfl (L_iload_n C 3 d1 rfl (L_iconst C d2 (L_iadd C d3 (L_sld C (by omega) h1 d4 kk))))
theorem L_pc {pc' : Nat} (h : pc' = pc) (k : LJ E pc' lv st S M) : LJ E pc lv st S M := h ▸ k
theorem L_callC (C : LX E) {y : MethodName} {bc : ByteArray} {nL' n fr' lo' idx : Nat} {ret' : Option FieldType} {As : List Value} (hM : jM (eG E) y bc nL' ret' fr' lo' (.ref (jad (eG E) 0) :: As) S post) (hw : jcalV y bc nL' ret' n) (hy : y.cls = RX5) (hl' : Cond.methodLink RL idx y ∈ lw_good)
    (hd : decode code pc = .ok (.invokevirtual idx, 3)) (hn : As.length = n) (hst : st = As.reverse ++ .ref (jad (eG E) 0) :: rest) (hrm : fr' + 1 ≤ 9 ∧ 8 + (nL' + 11) + lo' ≤ 330) (hcat : (rest.map fun v => v.category).sum ≤ 8)
    (kk : ∀ (r : Option Value) (S' : jMem), post r S' → LJ E (pc + 3) lv (r.toList ++ rest) S' M) : LJ E pc lv st S M := by
  intro H locs ls hl hP hPm hS
  obtain ⟨⟨hx, hb, hr, hml, hown, hts, hX, hbl, hlocks, hgv⟩, hL, hK, hT, ⟨hI, hI2⟩, hA, hA2, hdis⟩ := C
  refine n_callV (G := eG E) (S := S) (A := eA E) (R := room_1) (cells := 54) (slots := 5805) (own := RL) (nL := 4) (ci := 5) (T := TX5) (N := 5) hx hb hml hown (fun w hw => hts w (lw_good_in hw)) hK hT hI hA hM hw hl' (Nat.le_of_ble_eq_true rfl) rfl (by rw [hy]; rfl) hd hn hst hrm ⟨Nat.le_of_ble_eq_true rfl, Nat.le_of_ble_eq_true rfl⟩ hcat hl.1 hP hS (fun r S' H1 locs1 hp hP1 hz hk hS1 => kk r S' hp H1 locs1 ls hl hP1 (hPm.kept (fun k x hx => ?_)) hS1)
  obtain ⟨a1, a2⟩ := jws_lt (eK E) M hx
  refine hk x.1 ((hPm k x hx).lt) (fun h => hdis _ h ⟨k, a1, a2.symm⟩)
theorem L_callM (C : LX E) {y : MethodName} {bc : ByteArray} {nL' n fr' lo' idx : Nat} {ret' : Option FieldType} {As : List Value} (hM : jM (eK E) y bc nL' ret' fr' lo' (.ref (jad (eK E) 0) :: As) M post) (hw : jcalV y bc nL' ret' n) (hy : y.cls = RX6) (hl' : Cond.methodLink RL idx y ∈ lw_good)
    (hd : decode code pc = .ok (.invokevirtual idx, 3)) (hn : As.length = n) (hst : st = As.reverse ++ .ref (jad (eK E) 0) :: rest) (hrm : fr' + 1 ≤ 9 ∧ 8 + (nL' + 11) + lo' ≤ 330) (hcat : (rest.map fun v => v.category).sum ≤ 8)
    (kk : ∀ (r : Option Value) (M' : jMem), post r M' → LJ E (pc + 3) lv (r.toList ++ rest) S M') : LJ E pc lv st S M := by
  intro H locs ls hl hP hPm hS
  obtain ⟨⟨hx, hb, hr, hml, hown, hts, hX, hbl, hlocks, hgv⟩, hL, hK, hT, ⟨hI, hI2⟩, hA, hA2, hdis⟩ := C
  refine n_callV (G := eK E) (S := M) (A := eA E) (R := room_1) (cells := 54) (slots := 5805) (own := RL) (nL := 4) (ci := 6) (T := TX6) (N := 27) hx hb hml hown (fun w hw => hts w (lw_good_in hw)) hK hT hI2 hA2 hM hw hl' (Nat.le_of_ble_eq_true rfl) rfl (by rw [hy]; rfl) hd hn hst hrm ⟨Nat.le_of_ble_eq_true rfl, Nat.le_of_ble_eq_true rfl⟩ hcat hl.1 hPm hS (fun r M' H1 locs1 hp hP1 hz hk hS1 => kk r M' hp H1 locs1 ls hl (hP.kept (fun k x hx => ?_)) hP1 hS1)
  obtain ⟨a1, a2⟩ := jws_lt (eG E) S hx
  refine hk x.1 ((hP k x hx).lt) (fun h => hdis _ ⟨k, a1, a2.symm⟩ h)
/-- the two answers are the same -/
theorem L_same (C : LX E) {v u off : Int} (h : v = u) (hd : decode code pc = .ok (.if_icmp .eq off, 3)) (ht : (pc : Int) + off = ((816 : Nat) : Int)) (k : LJ E 816 lv st S M) : LJ E pc lv (.int (iI u) :: .int (iI v) :: st) S M := fun H locs ls hl hP hM hS => lv_icmp_eq C.1.1 C.1.2.1 hd ht (fun _ => k H locs ls hl hP hM hS) (fun q => absurd (by rw [h]) q)
theorem lg_cmp_same (x : Int64) : lg_cmp x x = 0 := by
  unfold lg_cmp
  rw [if_neg (Int64.lt_irrefl), if_pos rfl]
theorem L_lsame (C : LX E) {v u off : Int} (h : v = u) (hd1 : decode code pc = .ok (.lcmp, 1)) (hd : decode code (pc + 1) = .ok (.ifCond .eq off, 3)) (ht : ((pc + 1 : Nat) : Int) + off = ((816 : Nat) : Int)) (k : LJ E 816 lv st S M) : LJ E pc lv (.long (iL u) :: .long (iL v) :: st) S M := fun H locs ls hl hP hM hS => by
  subst h
  refine W.lcmp C.1.1 C.1.2.1 hd1 ?_
  rw [lg_cmp_same]
  exact lv_if_eq C.1.1 C.1.2.1 hd ht (fun _ => k H locs ls hl hP hM hS) (fun q => absurd rfl q)
end LL
