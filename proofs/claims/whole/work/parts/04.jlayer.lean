/-! a component's memory: cells by their numbers, what they hold as whole numbers -/
abbrev jMem : Type := Nat → Int → Int
/-- the shape of a cell: an object (its class's place, of each field 0: an int, 1: a long, r + 2: a reference to cell r), or an array (of booleans?, its length) -/
abbrev jSh : Type := (Nat × List Nat) ⊕ (Bool × Nat)
def up2 (S : jMem) (k : Nat) (a v : Int) : jMem := fun k' a' => if k' = k ∧ a' = a then v else S k' a'
theorem up2_eq (S : jMem) (k : Nat) (a v : Int) : up2 S k a v k a = v := by simp [up2]
theorem up2_k (S : jMem) {k k' : Nat} (a v : Int) (h : k' ≠ k) : up2 S k a v k' = S k' := by funext a'; simp [up2, h]
theorem up2_a (S : jMem) (k : Nat) {a a' : Int} (v : Int) (h : a' ≠ a) : up2 S k a v k a' = S k a' := by simp [up2, h]
def jfv (ad : Nat → Nat) (c : Nat) (x : Int) : Value := match c with
  | 0 => .int (iI x)
  | 1 => .long (iL x)
  | r + 2 => .ref (ad r)
def jfs (ad : Nat → Nat) (f : Int → Int) : Nat → List Nat → List Value
  | _, [] => []
  | j, c :: cs => jfv ad c (f j) :: jfs ad f (j + 1) cs
theorem jfs_len (ad : Nat → Nat) (f : Int → Int) : ∀ (l : List Nat) (j : Nat), (jfs ad f j l).length = l.length
  | [], _ => rfl
  | _ :: l, j => congrArg (· + 1) (jfs_len ad f l (j + 1))
theorem jfs_get (ad : Nat → Nat) (f : Int → Int) : ∀ (l : List Nat) (j k c : Nat), l[k]? = some c → (jfs ad f j l)[k]? = some (jfv ad c (f ((j + k : Nat) : Int)))
  | [], _, _, _, h => by simp at h
  | b :: l, j, 0, c, h => by
    simp at h
    subst h
    rfl
  | b :: l, j, k + 1, c, h => by
    have h2 : l[k]? = some c := by simpa using h
    have := jfs_get ad f l (j + 1) k c h2
    rw [show j + 1 + k = j + (k + 1) by omega] at this
    simpa [jfs] using this
theorem jfs_congr (ad : Nat → Nat) (f g : Int → Int) : ∀ (l : List Nat) (j : Nat), (∀ i : Nat, j ≤ i → f i = g i) → jfs ad f j l = jfs ad g j l
  | [], _, _ => rfl
  | b :: l, j, h => by
    show jfv ad b (f j) :: jfs ad f (j + 1) l = jfv ad b (g j) :: jfs ad g (j + 1) l
    rw [h j (Nat.le_refl j), jfs_congr ad f g l (j + 1) (fun i hi => h i (by omega))]
theorem jfs_set (ad : Nat → Nat) (f g : Int → Int) : ∀ (l : List Nat) (j k c : Nat), l[k]? = some c → (∀ i : Nat, i ≠ j + k → g i = f i) → (jfs ad f j l).set k (jfv ad c (g ((j + k : Nat) : Int))) = jfs ad g j l
  | [], _, _, _, h, _ => by simp at h
  | b :: l, j, 0, c, h, hg => by
    simp at h
    subst h
    show jfv ad b (g j) :: jfs ad f (j + 1) l = jfv ad b (g j) :: jfs ad g (j + 1) l
    rw [jfs_congr ad f g l (j + 1) (fun i hi => (hg i (by omega)).symm)]
  | b :: l, j, k + 1, c, h, hg => by
    have h2 : l[k]? = some c := by simpa using h
    have := jfs_set ad f g l (j + 1) k c h2 (fun i hi => hg i (by omega))
    rw [show j + 1 + k = j + (k + 1) by omega] at this
    show jfv ad b (f j) :: (jfs ad f (j + 1) l).set k _ = jfv ad b (g j) :: jfs ad g (j + 1) l
    rw [this, hg j (by omega)]
def jE (cI cZ : ClassId) (ad : Nat → Nat) (f : Int → Int) (q : jSh) : va_E := match q with
  | .inl q => .inr (q.1, jfs ad f 0 q.2)
  | .inr q => .inl (if q.1 then cZ else cI, q.2, .inl (fun j => iI (f j)))
/-- what is fixed of a component: the launch, its shape, how many cells, classes' numbers and slots, the classes of int[] and boolean[], where the cells lie, where the class's table lies -/
abbrev jG : Type := Launch × (Nat → jSh) × Nat × (Nat → ClassId) × (Nat → Nat → Nat) × ClassId × ClassId × (Nat → Nat) × Nat
abbrev jl (G : jG) : Launch := G.1
abbrev jsh (G : jG) : Nat → jSh := G.2.1
abbrev jn (G : jG) : Nat := G.2.2.1
abbrev jD (G : jG) : va_G := (G.2.2.2.1, G.2.2.2.2.1)
abbrev jcI (G : jG) : ClassId := G.2.2.2.2.2.1
abbrev jcZ (G : jG) : ClassId := G.2.2.2.2.2.2.1
abbrev jad (G : jG) : Nat → Nat := G.2.2.2.2.2.2.2.1
abbrev jt (G : jG) : Nat := G.2.2.2.2.2.2.2.2
abbrev jtys (G : jG) : List (ClassId × FieldType) := [(jcI G, .int), (jcZ G, .boolean)]
def jws (G : jG) (S : jMem) : va_W := (List.range (jn G)).map (fun k => (jad G k, jE (jcI G) (jcZ G) (jad G) (S k) (jsh G k)))
def jA (G : jG) : Nat → Prop := fun q => ∃ k, k < jn G ∧ jad G k = q
theorem jws_get (G : jG) (S : jMem) {k : Nat} (h : k < jn G) : (jws G S)[k]? = some (jad G k, jE (jcI G) (jcZ G) (jad G) (S k) (jsh G k)) := by
  unfold jws
  rw [List.getElem?_map, List.getElem?_range h]
  rfl
theorem jws_set (G : jG) (S S' : jMem) {k : Nat} {e : va_E} (h : k < jn G) (he : e = jE (jcI G) (jcZ G) (jad G) (S' k) (jsh G k)) (ho : ∀ i, i ≠ k → S' i = S i) : (jws G S).set k (jad G k, e) = jws G S' := by
  apply List.ext_getElem?
  intro i
  by_cases hi : i = k
  · subst hi
    have hl : i < (jws G S).length := by unfold jws; simpa using h
    rw [List.getElem?_set_self hl, jws_get G S' h, he]
  · rw [List.getElem?_set_ne (Ne.symm hi)]
    unfold jws
    rw [List.getElem?_map, List.getElem?_map]
    cases hr : (List.range (jn G))[i]? with
    | none => rfl
    | some j =>
      have hj : j = i := by
        have := List.getElem?_eq_some_iff.mp hr
        obtain ⟨h1, h2⟩ := this
        simpa using h2.symm
      subst hj
      show some (jad G j, jE (jcI G) (jcZ G) (jad G) (S j) (jsh G j)) = some (jad G j, jE (jcI G) (jcZ G) (jad G) (S' j) (jsh G j))
      rw [ho j hi]
def jinj (G : jG) : Prop := ∀ i j, i < jn G → j < jn G → jad G i = jad G j → i = j
theorem jws_lt (G : jG) (S : jMem) {k : Nat} {q : Nat × va_E} (h : (jws G S)[k]? = some q) : k < jn G ∧ q.1 = jad G k := by
  have hl : k < (jws G S).length := (List.getElem?_eq_some_iff.mp h).1
  have hk : k < jn G := by unfold jws at hl; simpa using hl
  rw [jws_get G S hk] at h
  cases h
  exact ⟨hk, rfl⟩
theorem jD_of (G : jG) (S : jMem) (h : jinj G) : va_D (jA G) (jws G S) := by
  refine ⟨fun i j x y hi hj hxy => ?_, fun k q hk => ?_⟩
  · obtain ⟨a1, a2⟩ := jws_lt G S hi
    obtain ⟨b1, b2⟩ := jws_lt G S hj
    exact h i j a1 b1 (by rw [← a2, ← b2, hxy])
  · obtain ⟨a1, a2⟩ := jws_lt G S hk
    exact ⟨k, a1, a2.symm⟩
/-- the class's table of sides -/
def sd (a : Int) : Int := ([0, 1, 2, 0, 2, 1, 1, 0, 2, 1, 2, 0, 2, 0, 1, 2, 1, 0] : List Int).getD a.toNat 0
def jnest : List Cond := [.methodLinkNest "PlaceRectangles$Cuts" 28 yX5_lowest "PlaceRectangles", .methodLinkNest "PlaceRectangles$Search" 124 yX5_lowest "PlaceRectangles"]
def jst (G : jG) (A : Nat → Prop) (U : State) (H : Heap) : Prop := va_Z "PlaceRectangles$Stock" "SIDES_OF_TURNS" "[I" (.ref (jt G)) A U H ∧ va_T .int (jt G) 18 (fun j => .int (iI (sd j))) A U H ∧ ∀ w ∈ jnest, va_Nw w U
theorem jst.moved {G : jG} {A : Nat → Prop} {u U : State} {H : Heap} (hW : u.WarmedH U.vm) (h : jst G A u H) : jst G A U H := by
  refine ⟨h.1.moved hW.alike, h.2.1.moved hW.alike, fun w hw => ?_⟩
  have h0 := h.2.2 w hw
  simp only [jnest, List.mem_cons, List.not_mem_nil, or_false] at hw
  rcases hw with rfl | rfl
  · exact va_Nw.warmM hW h0
  · exact va_Nw.warmM hW h0
theorem jst.kept {G : jG} {A : Nat → Prop} {U : State} {H H1 : Heap} (h : jst G A U H) (hq : ∀ a : Nat, a < H.size → ¬ A a → H1[a]? = H[a]?) : jst G A U H1 := ⟨h.1.kept hq, h.2.1.kept hq, h.2.2⟩
theorem jst.call {G : jG} {A : Nat → Prop} {U : State} {H : Heap} (g : JFrame) (mk : MethodId) (a : Array Value) (h : jst G A U H) : jst G A (U.calling g mk a) H := by
  refine ⟨h.1.moved (Vm.Alike.refl U.vm), h.2.1.moved (Vm.Alike.refl U.vm), fun w hw => ?_⟩
  have h0 := h.2.2 w hw
  simp only [jnest, List.mem_cons, List.not_mem_nil, or_false] at hw
  rcases hw with rfl | rfl
  · exact va_Nw.same (u := U) rfl rfl h0
  · exact va_Nw.same (u := U) rfl rfl h0
/-- the component's world -/
def jW (G : jG) (S : jMem) (U : State) : Prop := va_P (jD G) vwCl (jws G S) U.heap ∧ va_K (jD G) vwCl (jtys G) U ∧ jst G (jA G) U U.heap ∧ jinj G
theorem jW.blind {G : jG} {S : jMem} {av : List Value} : FrameBlind (va_Pc av (jW G S)) := fun a U g mk q => by
  obtain ⟨q0, qP, qK, qT, qI⟩ := q
  exact ⟨q0, qP, va_K.moved (u := U) (U := U.calling g mk a) (Vm.Alike.refl U.vm) qK, jst.call g mk a qT, qI⟩
def jQ (G : jG) (post : Option Value → jMem → Prop) : Array Value → State → Outcome → State → Prop := fun _ st oc t => (∃ (r : Option Value) (S' : jMem), oc = .returned r ∧ post r S' ∧ va_P (jD G) vwCl (jws G S') t.heap) ∧ va_F (jA G) st t
/-- the words that a method has: the tables that go along -/
def lw_good : List Cond := lw_tbl.filter goodWord
theorem lw_good_in {w : Cond} (h : w ∈ lw_good) : w ∈ lw_tbl := (List.mem_filter.mp h).1
theorem lw_good_of {w : Cond} (h : w ∈ lw_tbl) (h2 : goodWord w = true) : w ∈ lw_good := List.mem_filter.mpr ⟨h, h2⟩
theorem lw_good_good {x : Cond} : GoodIn (x :: lw_good) lw_good := fun w hw => ⟨List.mem_cons_of_mem _ hw, good_of_word (List.mem_filter.mp hw).2⟩
/-- a method's contract over a component -/
def jM (G : jG) (y : MethodName) (cc : ByteArray) (nL : Nat) (ret : Option FieldType) (fr lo : Nat) (av : List Value) (S : jMem) (post : Option Value → jMem → Prop) : Prop :=
  Met (jl G) y (.code y cc nL ret :: lw_good) { frames := fr, cells := 0, slots := 0, locals := lo } (va_Pc av (jW G S)) (jQ G post) 0 0 (jA G)
/-- an activation: the machine, who is below, which method, the room's rest, the goal -/
abbrev jEnv : Type := Program × Env × Room × State × MethodId × Array Value × List Frame × Method × Code × Nat × Nat × (State → Prop)
/-- the machine, at pc with these locals and this stack, the component holding S, comes to the goal -/
def J (E : jEnv) (G : jG) (pc : Nat) (lv : List (Nat × Value)) (st : List Value) (S : jMem) : Prop :=
  ∀ (H : Heap) (locs : List Loc) (ls : Array Slot), lv_has ls E.2.2.2.2.2.2.2.2.1.maxLocals lv → va_P (jD G) vwCl (jws G S) H → va_S (jA G) E.2.2.2.1.heap H locs →
    W E.1 (jl G) E.2.1 E.2.2.1 E.2.2.2.1 E.2.2.2.2.1 E.2.2.2.2.2.1 E.2.2.2.2.2.2.1 E.2.2.2.2.2.2.2.1 E.2.2.2.2.2.2.2.2.1 H locs E.2.2.2.2.2.2.2.2.2.1 E.2.2.2.2.2.2.2.2.2.2.1 E.2.2.2.2.2.2.2.2.2.2.2 (F0 E.2.2.2.2.1 pc ls st)
def jX (E : jEnv) (G : jG) (cc : ByteArray) (nL : Nat) (own : String) (fr lo : Nat) : Prop :=
  E.1.tables.exec = Jvm.exec ∧ E.2.2.2.2.2.2.2.2.1.code = cc ∧ E.2.2.2.2.2.2.2.2.1.maxLocals = nL ∧ E.2.2.2.1.vm.findClass own = some E.2.2.2.2.1.cls ∧ (∀ w ∈ lw_good, w.before E.2.2.2.2.2.1 E.2.2.2.1 = true) ∧
  va_K (jD G) vwCl (jtys G) E.2.2.2.1 ∧ jst G (jA G) E.2.2.2.1 E.2.2.2.1.heap ∧ jinj G ∧ fr ≤ E.2.2.1.frames ∧ lo ≤ E.2.2.1.locals ∧ E.2.2.2.2.2.2.2.2.2.1 ≤ E.2.2.1.cells ∧ E.2.2.2.2.2.2.2.2.2.2.1 ≤ E.2.2.1.slots
/-- the goal is the contract's end -/
def jR (E : jEnv) (G : jG) (ret : Option FieldType) (post : Option Value → jMem → Prop) : Prop :=
  E.2.2.2.2.2.2.2.2.2.2.2 = MQ E.2.2.2.2.2.2.1 (jQ G post) E.2.2.2.2.2.1 E.2.2.2.1 E.2.2.2.2.2.2.2.2.2.1 E.2.2.2.2.2.2.2.2.2.2.1 (jA G) ∧ E.2.2.2.2.2.2.2.1.sig.returnType = ret ∧ E.2.2.2.2.2.2.2.1.locks = false
theorem jM.of {G : jG} {y : MethodName} {cc : ByteArray} {nL : Nat} {ret : Option FieldType} {fr lo : Nat} {av : List Value} {S : jMem} {post : Option Value → jMem → Prop} (hy : plainName y.cls = true) (hlen : (lg_sl av).length ≤ nL)
    (body : ∀ E : jEnv, jX E G cc nL y.cls fr lo → jR E G ret post → J E G 0 (lv_args 0 av) [] S) : jM G y cc nL ret fr lo av S post := by
  refine Met.ofW (cc := cc) (maxL := nL) (ret := ret) hy rfl ?_
  intro p e s m args below meth c s₁ B hml hv
  obtain ⟨rfl, hP, hK, hT, hI⟩ := hv
  have hts := atoms_spec (ws := .code y cc nL ret :: lw_good) B.pre
  have hl := lv_entry av (n := nL) hlen
  rw [lg_entry_eq]
  exact body (p, e, _, s, m, av.toArray, below, meth, c, 0, 0, _) ⟨B.exec, B.bytes, hml, findClass_of_methodNamed B.named, fun w hw => hts w (List.mem_cons_of_mem _ hw), hK, hT, hI, Nat.le_refl _, Nat.le_refl _, Nat.zero_le _, Nat.zero_le _⟩ ⟨rfl, B.returns, B.notSynchronized⟩ s.heap [] _ (by show lv_has _ c.maxLocals _; rw [hml]; exact hl) hP va_S.rf
section JR
variable {E : jEnv} {G : jG} {cc : ByteArray} {nL : Nat} {own : String} {fr lo : Nat} {pc : Nat} {lv lv' : List (Nat × Value)} {st : List Value} {S : jMem} {ret : Option FieldType} {post : Option Value → jMem → Prop}
theorem J_iconst (C : jX E G cc nL own fr lo) {n : Int} (hd : decode cc pc = .ok (.iconst n, 1)) (k : J E G (pc + 1) lv (.int (iI n) :: st) S) : J E G pc lv st S := fun H locs ls hl hP hS => lv_iconst C.1 C.2.1 hd rfl (k H locs ls hl hP hS)
theorem J_bipush (C : jX E G cc nL own fr lo) {n : Int} (hd : decode cc pc = .ok (.bipush n, 2)) (hn : (Int8.ofInt n).toInt32 = iI n) (k : J E G (pc + 2) lv (.int (iI n) :: st) S) : J E G pc lv st S := fun H locs ls hl hP hS => lv_bipush C.1 C.2.1 hd hn (k H locs ls hl hP hS)
theorem J_sipush (C : jX E G cc nL own fr lo) {n : Int} (hd : decode cc pc = .ok (.sipush n, 3)) (hn : (Int16.ofInt n).toInt32 = iI n) (k : J E G (pc + 3) lv (.int (iI n) :: st) S) : J E G pc lv st S := fun H locs ls hl hP hS => lv_sipush C.1 C.2.1 hd hn (k H locs ls hl hP hS)
theorem J_ldc (C : jX E G cc nL own fr lo) {n : Int} {i : Nat} (hw : Cond.constant own i (iI n) ∈ lw_good) (hd : decode cc pc = .ok (.ldc i, 2)) (k : J E G (pc + 2) lv (.int (iI n) :: st) S) : J E G pc lv st S := fun H locs ls hl hP hS => lv_ldc C.1 C.2.1 C.2.2.2.1 (C.2.2.2.2.1 _ hw) hd (k H locs ls hl hP hS)
theorem J_ldc2 (C : jX E G cc nL own fr lo) {n : Int} {i : Nat} (hw : Cond.constantLong own i (iL n) ∈ lw_good) (hd : decode cc pc = .ok (.ldc2_w i, 3)) (k : J E G (pc + 3) lv (.long (iL n) :: st) S) : J E G pc lv st S := fun H locs ls hl hP hS => lv_ldc2 C.1 C.2.1 C.2.2.2.1 (C.2.2.2.2.1 _ hw) hd (k H locs ls hl hP hS)
theorem J_lconst (C : jX E G cc nL own fr lo) {n : Fin 2} (z : Int) (hd : decode cc pc = .ok (.lconst n, 1)) (hz : Int64.ofNat (n : Nat) = iL z) (k : J E G (pc + 1) lv (.long (iL z) :: st) S) : J E G pc lv st S := fun H locs ls hl hP hS => lv_lconst C.1 C.2.1 hd hz (k H locs ls hl hP hS)
theorem J_iload (C : jX E G cc nL own fr lo) {i : Nat} {x : Int32} (q : Nat) (hd : decode cc pc = .ok (.iload i, 2)) (hq : lv[q]? = some (i, .int x)) (k : J E G (pc + 2) lv (.int x :: st) S) : J E G pc lv st S := fun H locs ls hl hP hS => lv_iload C.1 C.2.1 hd (lv_at hl q hq) (k H locs ls hl hP hS)
theorem J_iload_n (C : jX E G cc nL own fr lo) {i : Fin 4} {x : Int32} (q : Nat) (hd : decode cc pc = .ok (.iload_n i, 1)) (hq : lv[q]? = some ((i : Nat), .int x)) (k : J E G (pc + 1) lv (.int x :: st) S) : J E G pc lv st S := fun H locs ls hl hP hS => lv_iload_n C.1 C.2.1 hd rfl (lv_at hl q hq) (k H locs ls hl hP hS)
theorem J_lload (C : jX E G cc nL own fr lo) {i : Nat} {x : Int64} (q : Nat) (hd : decode cc pc = .ok (.lload i, 2)) (hq : lv[q]? = some (i, .long x)) (k : J E G (pc + 2) lv (.long x :: st) S) : J E G pc lv st S := fun H locs ls hl hP hS => lv_lload C.1 C.2.1 hd (lv_at hl q hq) (k H locs ls hl hP hS)
theorem J_aload (C : jX E G cc nL own fr lo) {i : Nat} {x : Nat} (q : Nat) (hd : decode cc pc = .ok (.aload i, 2)) (hq : lv[q]? = some (i, .ref x)) (k : J E G (pc + 2) lv (.ref x :: st) S) : J E G pc lv st S := fun H locs ls hl hP hS => lv_aload C.1 C.2.1 hd (lv_at hl q hq) (k H locs ls hl hP hS)
theorem J_aload_n (C : jX E G cc nL own fr lo) {i : Fin 4} {x : Nat} (q : Nat) (hd : decode cc pc = .ok (.aload_n i, 1)) (hq : lv[q]? = some ((i : Nat), .ref x)) (k : J E G (pc + 1) lv (.ref x :: st) S) : J E G pc lv st S := fun H locs ls hl hP hS => lv_aload_n C.1 C.2.1 hd rfl (lv_at hl q hq) (k H locs ls hl hP hS)
theorem J_istore (C : jX E G cc nL own fr lo) {i : Nat} {x : Int32} (hd : decode cc pc = .ok (.istore i, 2)) (hn : i < nL) (hl' : (i, Value.int x) :: lv.filter (fun q => !(q.1 == i) && !(q.1 + 1 == i && q.2.category == 2)) = lv') (k : J E G (pc + 2) lv' st S) : J E G pc lv (.int x :: st) S := fun H locs ls hl hP hS => lv_istore C.1 C.2.1 hd hl (by rw [C.2.2.1]; exact hn) hl' (fun ls' hl'' => k H locs ls' hl'' hP hS)
theorem J_istore_n (C : jX E G cc nL own fr lo) {i : Fin 4} {x : Int32} (hd : decode cc pc = .ok (.istore_n i, 1)) (hn : (i : Nat) < nL) (hl' : ((i : Nat), Value.int x) :: lv.filter (fun q => !(q.1 == (i : Nat)) && !(q.1 + 1 == (i : Nat) && q.2.category == 2)) = lv') (k : J E G (pc + 1) lv' st S) : J E G pc lv (.int x :: st) S := fun H locs ls hl hP hS => lv_istore_n C.1 C.2.1 hd rfl hl (by rw [C.2.2.1]; exact hn) hl' (fun ls' hl'' => k H locs ls' hl'' hP hS)
theorem J_lstore (C : jX E G cc nL own fr lo) {i : Nat} {x : Int64} (hd : decode cc pc = .ok (.lstore i, 2)) (hn : i + 1 < nL) (hl' : (i, Value.long x) :: lv.filter (fun q => !(q.1 == i) && (!(q.1 == i + 1) && !(q.1 + 1 == i && q.2.category == 2))) = lv') (k : J E G (pc + 2) lv' st S) : J E G pc lv (.long x :: st) S := fun H locs ls hl hP hS => lv_lstore C.1 C.2.1 hd hl (by rw [C.2.2.1]; exact hn) hl' (fun ls' hl'' => k H locs ls' hl'' hP hS)
theorem J_iinc (C : jX E G cc nL own fr lo) {i : Nat} {n a : Int} (q : Nat) (hd : decode cc pc = .ok (.iinc i n, 3)) (hq : lv[q]? = some (i, .int (iI a))) (hn : i < nL) (hl' : (i, Value.int (iI (a + n))) :: lv.filter (fun q => !(q.1 == i) && !(q.1 + 1 == i && q.2.category == 2)) = lv') (k : J E G (pc + 3) lv' st S) : J E G pc lv st S := fun H locs ls hl hP hS => lv_iinc (v := iI (a + n)) C.1 C.2.1 hd hl hq (iI_add a n) (by rw [C.2.2.1]; exact hn) hl' (fun ls' hl'' => k H locs ls' hl'' hP hS)
theorem J_iadd (C : jX E G cc nL own fr lo) {a b : Int} (hd : decode cc pc = .ok (.iadd, 1)) (k : J E G (pc + 1) lv (.int (iI (a + b)) :: st) S) : J E G pc lv (.int (iI b) :: .int (iI a) :: st) S := fun H locs ls hl hP hS => lv_iadd C.1 C.2.1 hd (by rw [iI_add]; exact k H locs ls hl hP hS)
theorem J_isub (C : jX E G cc nL own fr lo) {a b : Int} (hd : decode cc pc = .ok (.isub, 1)) (k : J E G (pc + 1) lv (.int (iI (a - b)) :: st) S) : J E G pc lv (.int (iI b) :: .int (iI a) :: st) S := fun H locs ls hl hP hS => lv_isub C.1 C.2.1 hd (by rw [iI_sub]; exact k H locs ls hl hP hS)
theorem J_imul (C : jX E G cc nL own fr lo) {a b : Int} (hd : decode cc pc = .ok (.imul, 1)) (k : J E G (pc + 1) lv (.int (iI (a * b)) :: st) S) : J E G pc lv (.int (iI b) :: .int (iI a) :: st) S := fun H locs ls hl hP hS => lv_imul C.1 C.2.1 hd (by rw [iI_mul]; exact k H locs ls hl hP hS)
theorem J_ineg (C : jX E G cc nL own fr lo) {a : Int} (hd : decode cc pc = .ok (.ineg, 1)) (k : J E G (pc + 1) lv (.int (iI (-a)) :: st) S) : J E G pc lv (.int (iI a) :: st) S := fun H locs ls hl hP hS => lv_ineg C.1 C.2.1 hd (by rw [iI_neg]; exact k H locs ls hl hP hS)
theorem J_idiv (C : jX E G cc nL own fr lo) {a b : Int} (hd : decode cc pc = .ok (.idiv, 1)) (ha : 0 ≤ a) (ha2 : a ≤ 2147483647) (hb : 0 < b) (hb2 : b ≤ 2147483647) (k : J E G (pc + 1) lv (.int (iI (a / b)) :: st) S) : J E G pc lv (.int (iI b) :: .int (iI a) :: st) S := fun H locs ls hl hP hS => lv_idiv C.1 C.2.1 hd (iI_nz (by omega) (by omega)) (by rw [iI_div ha ha2 hb hb2]; exact k H locs ls hl hP hS)
theorem J_irem (C : jX E G cc nL own fr lo) {a b : Int} (hd : decode cc pc = .ok (.irem, 1)) (ha : 0 ≤ a) (ha2 : a ≤ 2147483647) (hb : 0 < b) (hb2 : b ≤ 2147483647) (k : J E G (pc + 1) lv (.int (iI (a % b)) :: st) S) : J E G pc lv (.int (iI b) :: .int (iI a) :: st) S := fun H locs ls hl hP hS => lv_irem C.1 C.2.1 hd (iI_nz (by omega) (by omega)) (by rw [iI_rem ha ha2 hb hb2]; exact k H locs ls hl hP hS)
theorem J_ishl (C : jX E G cc nL own fr lo) {a b : Int} (hd : decode cc pc = .ok (.ishl, 1)) (h0 : 0 ≤ b) (h1 : b < 32) (k : J E G (pc + 1) lv (.int (iI (a * 2 ^ b.toNat)) :: st) S) : J E G pc lv (.int (iI b) :: .int (iI a) :: st) S := fun H locs ls hl hP hS => lv_ishl C.1 C.2.1 hd (by rw [iI_shl h0 h1]; exact k H locs ls hl hP hS)
theorem J_ishr (C : jX E G cc nL own fr lo) {a b : Int} (hd : decode cc pc = .ok (.ishr, 1)) (ha : inR a) (h0 : 0 ≤ b) (h1 : b < 32) (k : J E G (pc + 1) lv (.int (iI (a / 2 ^ b.toNat)) :: st) S) : J E G pc lv (.int (iI b) :: .int (iI a) :: st) S := fun H locs ls hl hP hS => lv_ishr C.1 C.2.1 hd (by rw [iI_shr ha h0 h1]; exact k H locs ls hl hP hS)
/-- any of iand, ior, ixor: the answer's number is told -/
theorem J_iand (C : jX E G cc nL own fr lo) {x y : Int32} (z : Int) (hd : decode cc pc = .ok (.iand, 1)) (hz : x &&& y = iI z) (k : J E G (pc + 1) lv (.int (iI z) :: st) S) : J E G pc lv (.int y :: .int x :: st) S := fun H locs ls hl hP hS => lv_iand C.1 C.2.1 hd (by rw [hz]; exact k H locs ls hl hP hS)
theorem J_ior (C : jX E G cc nL own fr lo) {x y : Int32} (z : Int) (hd : decode cc pc = .ok (.ior, 1)) (hz : x ||| y = iI z) (k : J E G (pc + 1) lv (.int (iI z) :: st) S) : J E G pc lv (.int y :: .int x :: st) S := fun H locs ls hl hP hS => lv_ior C.1 C.2.1 hd (by rw [hz]; exact k H locs ls hl hP hS)
theorem J_ixor (C : jX E G cc nL own fr lo) {x y : Int32} (z : Int) (hd : decode cc pc = .ok (.ixor, 1)) (hz : x ^^^ y = iI z) (k : J E G (pc + 1) lv (.int (iI z) :: st) S) : J E G pc lv (.int y :: .int x :: st) S := fun H locs ls hl hP hS => lv_ixor C.1 C.2.1 hd (by rw [hz]; exact k H locs ls hl hP hS)
theorem J_iushr (C : jX E G cc nL own fr lo) {x y : Int32} (z : Int32) (hd : decode cc pc = .ok (.iushr, 1)) (hz : (x.toUInt32 >>> (y.toUInt32 &&& Int32.toUInt32 31)).toInt32 = z) (k : J E G (pc + 1) lv (.int z :: st) S) : J E G pc lv (.int y :: .int x :: st) S := fun H locs ls hl hP hS => lv_iushr C.1 C.2.1 hd hz (k H locs ls hl hP hS)
theorem J_i2l (C : jX E G cc nL own fr lo) {a : Int} (hd : decode cc pc = .ok (.i2l, 1)) (ha : inR a) (k : J E G (pc + 1) lv (.long (iL a) :: st) S) : J E G pc lv (.int (iI a) :: st) S := fun H locs ls hl hP hS => lv_i2l C.1 C.2.1 hd (iI_l ha) (k H locs ls hl hP hS)
theorem J_l2i (C : jX E G cc nL own fr lo) {a : Int} (hd : decode cc pc = .ok (.l2i, 1)) (k : J E G (pc + 1) lv (.int (iI a) :: st) S) : J E G pc lv (.long (iL a) :: st) S := fun H locs ls hl hP hS => lv_l2i C.1 C.2.1 hd (iL_i a) (k H locs ls hl hP hS)
theorem J_ladd (C : jX E G cc nL own fr lo) {a b : Int} (hd : decode cc pc = .ok (.ladd, 1)) (k : J E G (pc + 1) lv (.long (iL (a + b)) :: st) S) : J E G pc lv (.long (iL b) :: .long (iL a) :: st) S := fun H locs ls hl hP hS => lv_ladd C.1 C.2.1 hd (by rw [iL_add]; exact k H locs ls hl hP hS)
theorem J_lmul (C : jX E G cc nL own fr lo) {a b : Int} (hd : decode cc pc = .ok (.lmul, 1)) (k : J E G (pc + 1) lv (.long (iL (a * b)) :: st) S) : J E G pc lv (.long (iL b) :: .long (iL a) :: st) S := fun H locs ls hl hP hS => lv_lmul C.1 C.2.1 hd (by rw [iL_mul]; exact k H locs ls hl hP hS)
theorem J_lcmp (C : jX E G cc nL own fr lo) {a b : Int} (hd : decode cc pc = .ok (.lcmp, 1)) (ha : inL a) (hb : inL b) (k : J E G (pc + 1) lv (.int (iI (if b < a then 1 else if a = b then 0 else -1)) :: st) S) : J E G pc lv (.long (iL b) :: .long (iL a) :: st) S := fun H locs ls hl hP hS => W.lcmp C.1 C.2.1 hd (by rw [lg_cmp_i ha hb]; exact k H locs ls hl hP hS)
theorem J_dup (C : jX E G cc nL own fr lo) {v : Value} (hd : decode cc pc = .ok (.dup, 1)) (hv : v.category = 1) (k : J E G (pc + 1) lv (v :: v :: st) S) : J E G pc lv (v :: st) S := fun H locs ls hl hP hS => lv_dup C.1 C.2.1 hd hv (k H locs ls hl hP hS)
theorem J_dup2 (C : jX E G cc nL own fr lo) {v w : Value} (hd : decode cc pc = .ok (.dup2, 1)) (hv : v.category = 1) (hw : w.category = 1) (k : J E G (pc + 1) lv (v :: w :: v :: w :: st) S) : J E G pc lv (v :: w :: st) S := fun H locs ls hl hP hS => lv_dup2_11 C.1 C.2.1 hd hv hw (k H locs ls hl hP hS)
theorem J_dup_x1 (C : jX E G cc nL own fr lo) {v w : Value} (hd : decode cc pc = .ok (.dup_x1, 1)) (hv : v.category = 1) (hw : w.category = 1) (k : J E G (pc + 1) lv (v :: w :: v :: st) S) : J E G pc lv (v :: w :: st) S := fun H locs ls hl hP hS => lv_dup_x1 C.1 C.2.1 hd hv hw (k H locs ls hl hP hS)
theorem J_dup_x2 (C : jX E G cc nL own fr lo) {v w u : Value} (hd : decode cc pc = .ok (.dup_x2, 1)) (hv : v.category = 1) (hw : w.category = 1) (hu : u.category = 1) (k : J E G (pc + 1) lv (v :: w :: u :: v :: st) S) : J E G pc lv (v :: w :: u :: st) S := fun H locs ls hl hP hS => lv_dup_x2 C.1 C.2.1 hd hv hw hu (k H locs ls hl hP hS)
theorem J_goto (C : jX E G cc nL own fr lo) {off : Int} (tgt : Nat) (hd : decode cc pc = .ok (.goto off, 3)) (ht : (pc : Int) + off = (tgt : Int)) (k : J E G tgt lv st S) : J E G pc lv st S := fun H locs ls hl hP hS => lv_goto C.1 C.2.1 hd ht (k H locs ls hl hP hS)
theorem h00 : inR 0 := by omega
theorem J_if_eq (C : jX E G cc nL own fr lo) {a off : Int} (tgt : Nat) (hd : decode cc pc = .ok (.ifCond .eq off, 3)) (ht : (pc : Int) + off = (tgt : Int)) (ha : inR a) (kt : a = 0 → J E G tgt lv st S) (kf : ¬ a = 0 → J E G (pc + 3) lv st S) : J E G pc lv (.int (iI a) :: st) S := fun H locs ls hl hP hS => lv_if_eq C.1 C.2.1 hd ht (fun h => kt (by rw [← iI_zero, iI_inj ha h00] at h; exact h) H locs ls hl hP hS) (fun h => kf (by rw [← iI_zero, iI_inj ha h00] at h; exact h) H locs ls hl hP hS)
theorem J_if_ne (C : jX E G cc nL own fr lo) {a off : Int} (tgt : Nat) (hd : decode cc pc = .ok (.ifCond .ne off, 3)) (ht : (pc : Int) + off = (tgt : Int)) (ha : inR a) (kt : ¬ a = 0 → J E G tgt lv st S) (kf : a = 0 → J E G (pc + 3) lv st S) : J E G pc lv (.int (iI a) :: st) S := fun H locs ls hl hP hS => lv_if_ne C.1 C.2.1 hd ht (fun h => kt (by rw [← iI_zero, iI_inj ha h00] at h; exact h) H locs ls hl hP hS) (fun h => kf (by rw [← iI_zero, iI_inj ha h00] at h; exact h) H locs ls hl hP hS)
theorem J_if_lt (C : jX E G cc nL own fr lo) {a off : Int} (tgt : Nat) (hd : decode cc pc = .ok (.ifCond .lt off, 3)) (ht : (pc : Int) + off = (tgt : Int)) (ha : inR a) (kt : a < 0 → J E G tgt lv st S) (kf : ¬ a < 0 → J E G (pc + 3) lv st S) : J E G pc lv (.int (iI a) :: st) S := fun H locs ls hl hP hS => lv_if_lt C.1 C.2.1 hd ht (fun h => kt (by rw [← iI_zero, iI_lt ha h00] at h; exact h) H locs ls hl hP hS) (fun h => kf (by rw [← iI_zero, iI_lt ha h00] at h; exact h) H locs ls hl hP hS)
theorem J_if_ge (C : jX E G cc nL own fr lo) {a off : Int} (tgt : Nat) (hd : decode cc pc = .ok (.ifCond .ge off, 3)) (ht : (pc : Int) + off = (tgt : Int)) (ha : inR a) (kt : 0 ≤ a → J E G tgt lv st S) (kf : ¬ 0 ≤ a → J E G (pc + 3) lv st S) : J E G pc lv (.int (iI a) :: st) S := fun H locs ls hl hP hS => lv_if_ge C.1 C.2.1 hd ht (fun h => kt (by rw [← iI_zero, iI_le h00 ha] at h; exact h) H locs ls hl hP hS) (fun h => kf (by rw [← iI_zero, iI_le h00 ha] at h; exact h) H locs ls hl hP hS)
theorem J_if_gt (C : jX E G cc nL own fr lo) {a off : Int} (tgt : Nat) (hd : decode cc pc = .ok (.ifCond .gt off, 3)) (ht : (pc : Int) + off = (tgt : Int)) (ha : inR a) (kt : 0 < a → J E G tgt lv st S) (kf : ¬ 0 < a → J E G (pc + 3) lv st S) : J E G pc lv (.int (iI a) :: st) S := fun H locs ls hl hP hS => lv_if_gt C.1 C.2.1 hd ht (fun h => kt (by rw [← iI_zero, iI_lt h00 ha] at h; exact h) H locs ls hl hP hS) (fun h => kf (by rw [← iI_zero, iI_lt h00 ha] at h; exact h) H locs ls hl hP hS)
theorem J_if_le (C : jX E G cc nL own fr lo) {a off : Int} (tgt : Nat) (hd : decode cc pc = .ok (.ifCond .le off, 3)) (ht : (pc : Int) + off = (tgt : Int)) (ha : inR a) (kt : a ≤ 0 → J E G tgt lv st S) (kf : ¬ a ≤ 0 → J E G (pc + 3) lv st S) : J E G pc lv (.int (iI a) :: st) S := fun H locs ls hl hP hS => lv_if_le C.1 C.2.1 hd ht (fun h => kt (by rw [← iI_zero, iI_le ha h00] at h; exact h) H locs ls hl hP hS) (fun h => kf (by rw [← iI_zero, iI_le ha h00] at h; exact h) H locs ls hl hP hS)
theorem J_icmp_eq (C : jX E G cc nL own fr lo) {a b off : Int} (tgt : Nat) (hd : decode cc pc = .ok (.if_icmp .eq off, 3)) (ht : (pc : Int) + off = (tgt : Int)) (ha : inR a) (hb : inR b) (kt : a = b → J E G tgt lv st S) (kf : ¬ a = b → J E G (pc + 3) lv st S) : J E G pc lv (.int (iI b) :: .int (iI a) :: st) S := fun H locs ls hl hP hS => lv_icmp_eq C.1 C.2.1 hd ht (fun h => kt (by rw [iI_inj ha hb] at h; exact h) H locs ls hl hP hS) (fun h => kf (by rw [iI_inj ha hb] at h; exact h) H locs ls hl hP hS)
theorem J_icmp_ne (C : jX E G cc nL own fr lo) {a b off : Int} (tgt : Nat) (hd : decode cc pc = .ok (.if_icmp .ne off, 3)) (ht : (pc : Int) + off = (tgt : Int)) (ha : inR a) (hb : inR b) (kt : ¬ a = b → J E G tgt lv st S) (kf : a = b → J E G (pc + 3) lv st S) : J E G pc lv (.int (iI b) :: .int (iI a) :: st) S := fun H locs ls hl hP hS => lv_icmp_ne C.1 C.2.1 hd ht (fun h => kt (by rw [iI_inj ha hb] at h; exact h) H locs ls hl hP hS) (fun h => kf (by rw [iI_inj ha hb] at h; exact h) H locs ls hl hP hS)
theorem J_icmp_lt (C : jX E G cc nL own fr lo) {a b off : Int} (tgt : Nat) (hd : decode cc pc = .ok (.if_icmp .lt off, 3)) (ht : (pc : Int) + off = (tgt : Int)) (ha : inR a) (hb : inR b) (kt : a < b → J E G tgt lv st S) (kf : ¬ a < b → J E G (pc + 3) lv st S) : J E G pc lv (.int (iI b) :: .int (iI a) :: st) S := fun H locs ls hl hP hS => lv_icmp_lt C.1 C.2.1 hd ht (fun h => kt (by rw [iI_lt ha hb] at h; exact h) H locs ls hl hP hS) (fun h => kf (by rw [iI_lt ha hb] at h; exact h) H locs ls hl hP hS)
theorem J_icmp_ge (C : jX E G cc nL own fr lo) {a b off : Int} (tgt : Nat) (hd : decode cc pc = .ok (.if_icmp .ge off, 3)) (ht : (pc : Int) + off = (tgt : Int)) (ha : inR a) (hb : inR b) (kt : b ≤ a → J E G tgt lv st S) (kf : ¬ b ≤ a → J E G (pc + 3) lv st S) : J E G pc lv (.int (iI b) :: .int (iI a) :: st) S := fun H locs ls hl hP hS => lv_icmp_ge C.1 C.2.1 hd ht (fun h => kt (by rw [iI_le hb ha] at h; exact h) H locs ls hl hP hS) (fun h => kf (by rw [iI_le hb ha] at h; exact h) H locs ls hl hP hS)
theorem J_icmp_gt (C : jX E G cc nL own fr lo) {a b off : Int} (tgt : Nat) (hd : decode cc pc = .ok (.if_icmp .gt off, 3)) (ht : (pc : Int) + off = (tgt : Int)) (ha : inR a) (hb : inR b) (kt : b < a → J E G tgt lv st S) (kf : ¬ b < a → J E G (pc + 3) lv st S) : J E G pc lv (.int (iI b) :: .int (iI a) :: st) S := fun H locs ls hl hP hS => lv_icmp_gt C.1 C.2.1 hd ht (fun h => kt (by rw [iI_lt hb ha] at h; exact h) H locs ls hl hP hS) (fun h => kf (by rw [iI_lt hb ha] at h; exact h) H locs ls hl hP hS)
theorem J_icmp_le (C : jX E G cc nL own fr lo) {a b off : Int} (tgt : Nat) (hd : decode cc pc = .ok (.if_icmp .le off, 3)) (ht : (pc : Int) + off = (tgt : Int)) (ha : inR a) (hb : inR b) (kt : a ≤ b → J E G tgt lv st S) (kf : ¬ a ≤ b → J E G (pc + 3) lv st S) : J E G pc lv (.int (iI b) :: .int (iI a) :: st) S := fun H locs ls hl hP hS => lv_icmp_le C.1 C.2.1 hd ht (fun h => kt (by rw [iI_le ha hb] at h; exact h) H locs ls hl hP hS) (fun h => kf (by rw [iI_le ha hb] at h; exact h) H locs ls hl hP hS)
/-- the value on top has another name -/
theorem J_top {a b : Int} (h : a = b) (k : J E G pc lv (.int (iI b) :: st) S) : J E G pc lv (.int (iI a) :: st) S := h ▸ k
theorem J_mem {S' : jMem} (h : S = S') (k : J E G pc lv st S') : J E G pc lv st S := h ▸ k
/-- fewer locals, in any order -/
theorem J_lv (ks : List Nat) (h : lv_pick lv ks = lv') (k : J E G pc lv' st S) : J E G pc lv st S := fun H locs ls hl hP hS => k H locs ls (lv_sub hl ks h) hP hS
theorem J_get (C : jX E G cc nL own fr lo) {Cn : String} {T : u_T} {N ci idx j c k : Nat} {fl : List Nat} (hk : k < jn G) (hsh : jsh G k = .inl (ci, fl)) (hc : vwCl[ci]? = some (Cn, T, N)) (hin : ∀ w ∈ u_ws Cn T N, w ∈ lw_good) (hj : j < N) (hw : Cond.fieldLink own idx (T j).1 (T j).2.1 (T j).2.2.1 ∈ lw_good) (hf : fl[j]? = some c)
    (hd : decode cc pc = .ok (.getfield idx, 3)) (kk : J E G (pc + 3) lv (jfv (jad G) c (S k j) :: st) S) : J E G pc lv (.ref (jad G k) :: st) S := fun H locs ls hl hP hS => by
  obtain ⟨hx, hb, hml, hown, hts, hK, hT, hI, -⟩ := C
  have he := jws_get G S hk
  rw [hsh] at he
  have hv := jfs_get (jad G) (S k) fl 0 j c hf
  rw [Nat.zero_add] at hv
  exact va_get (D := jD G) (ci := ci) (C := Cn) (T := T) (N := N) (v := jfv (jad G) c (S k j)) hx hb hts hin hown hK hP k he hc j hj (hts _ hw) (fun _ h => h) hv hd (kk H locs ls hl hP hS)
theorem J_put (C : jX E G cc nL own fr lo) {Cn : String} {T : u_T} {N ci idx j c k : Nat} {fl : List Nat} (hk : k < jn G) (hsh : jsh G k = .inl (ci, fl)) (hc : vwCl[ci]? = some (Cn, T, N)) (hin : ∀ w ∈ u_ws Cn T N, w ∈ lw_good) (ty0 : Nat → FieldType) (hty : ∀ k, k < N → parseFieldDescriptor (T k).2.2.1 = some (ty0 k)) (hnm : ∀ a, a < N → ∀ b, b < N → a ≠ b → (T a).2.1 ≠ (T b).2.1) (hj : j < N) (hw : Cond.fieldLink own idx (T j).1 (T j).2.1 (T j).2.2.1 ∈ lw_good) (hfin : (T j).2.2.2 = false) (hf : fl[j]? = some c) {x : Int} (hn : narrow (ty0 j) (jfv (jad G) c x) = jfv (jad G) c x) (hfit : fits (ty0 j) (jfv (jad G) c x) = true)
    (hd : decode cc pc = .ok (.putfield idx, 3)) (kk : J E G (pc + 3) lv st (up2 S k j x)) : J E G pc lv (jfv (jad G) c x :: .ref (jad G k) :: st) S := fun H locs ls hl hP hS => by
  obtain ⟨hx, hb, hml, hown, hts, hK, hT, hI, -⟩ := C
  have he := jws_get G S hk
  rw [hsh] at he
  refine va_put (D := jD G) (ci := ci) (C := Cn) (T := T) (N := N) (v := jfv (jad G) c x) (ty := ty0 j) hx hb hts hin ty0 hty hnm hown hK hP (jD_of G S hI) hS k he hc j hj (hts _ hw) (fun _ h => h) hfin (hty j hj) hn hfit (by rw [jfs_len]; exact (List.getElem?_eq_some_iff.mp hf).1) hd (fun H1 locs1 hP1 hD1 hS1 => ?_)
  have hs := jfs_set (jad G) (S k) (up2 S k j x k) fl 0 j c hf (fun i hi => up2_a S k x (by omega))
  rw [Nat.zero_add, up2_eq] at hs
  rw [hs] at hP1
  rw [jws_set G S (up2 S k j x) hk (by rw [hsh]; rfl) (fun i hi => up2_k S j x hi)] at hP1
  exact kk H1 locs1 ls hl hP1 hS1
theorem J_ald (C : jX E G cc nL own fr lo) {k n : Nat} {a : Int} (hk : k < jn G) (hsh : jsh G k = .inr (false, n)) (hn : n ≤ 2147483647) (h0 : 0 ≤ a) (h1 : a < n) (hd : decode cc pc = .ok (.iaload, 1)) (kk : J E G (pc + 1) lv (.int (iI (S k a)) :: st) S) : J E G pc lv (.int (iI a) :: .ref (jad G k) :: st) S := fun H locs ls hl hP hS => by
  obtain ⟨hx, hb, hml, hown, hts, hK, hT, hI, -⟩ := C
  have he := jws_get G S hk
  rw [hsh] at he
  have h2 : a ≤ 2147483647 := by omega
  refine va_iald (D := jD G) hx hb hK hP k 0 he rfl (iI_in h0 h1 h2) hd ?_
  rw [iI_cl h0 h2, Int.toNat_of_nonneg h0]
  exact kk H locs ls hl hP hS
theorem J_ast (C : jX E G cc nL own fr lo) {k n : Nat} {a x : Int} (hk : k < jn G) (hsh : jsh G k = .inr (false, n)) (hn : n ≤ 2147483647) (h0 : 0 ≤ a) (h1 : a < n) (hd : decode cc pc = .ok (.iastore, 1)) (kk : J E G (pc + 1) lv st (up2 S k a x)) : J E G pc lv (.int (iI x) :: .int (iI a) :: .ref (jad G k) :: st) S := fun H locs ls hl hP hS => by
  obtain ⟨hx, hb, hml, hown, hts, hK, hT, hI, -⟩ := C
  have he := jws_get G S hk
  rw [hsh] at he
  have h2 : a ≤ 2147483647 := by omega
  refine va_iast (D := jD G) hx hb hK hP (jD_of G S hI) hS k 0 he rfl (iI_in h0 h1 h2) hd (fun H1 locs1 hP1 hD1 hS1 => ?_)
  rw [jws_set G S (up2 S k a x) hk ?_ (fun i hi => up2_k S a x hi)] at hP1
  · exact kk H1 locs1 ls hl hP1 hS1
  · rw [hsh]
    show _ = (.inl (_, n, .inl (fun j : Nat => iI (up2 S k a x k j))) : va_E)
    congr 4
    funext j
    unfold upd up2
    rw [iI_cl h0 h2]
    by_cases hj : j = a.toNat
    · rw [if_pos hj, if_pos ⟨rfl, by omega⟩]
    · rw [if_neg hj, if_neg (fun q => hj (by omega))]
theorem J_zld (C : jX E G cc nL own fr lo) {k n : Nat} {a : Int} (hk : k < jn G) (hsh : jsh G k = .inr (true, n)) (hn : n ≤ 2147483647) (h0 : 0 ≤ a) (h1 : a < n) (hd : decode cc pc = .ok (.baload, 1)) (kk : J E G (pc + 1) lv (.int (iI (S k a)) :: st) S) : J E G pc lv (.int (iI a) :: .ref (jad G k) :: st) S := fun H locs ls hl hP hS => by
  obtain ⟨hx, hb, hml, hown, hts, hK, hT, hI, -⟩ := C
  have he := jws_get G S hk
  rw [hsh] at he
  have h2 : a ≤ 2147483647 := by omega
  refine va_zald (D := jD G) hx hb hK hP k 1 he rfl (iI_in h0 h1 h2) hd ?_
  rw [iI_cl h0 h2, Int.toNat_of_nonneg h0]
  exact kk H locs ls hl hP hS
theorem iI_nar {x : Int} (h : x = 0 ∨ x = 1) : vp_nar .boolean (iI x) = iI x := by
  rcases h with rfl | rfl <;> decide
theorem J_zst (C : jX E G cc nL own fr lo) {k n : Nat} {a x : Int} (hk : k < jn G) (hsh : jsh G k = .inr (true, n)) (hn : n ≤ 2147483647) (h0 : 0 ≤ a) (h1 : a < n) (hxx : x = 0 ∨ x = 1) (hd : decode cc pc = .ok (.bastore, 1)) (kk : J E G (pc + 1) lv st (up2 S k a x)) : J E G pc lv (.int (iI x) :: .int (iI a) :: .ref (jad G k) :: st) S := fun H locs ls hl hP hS => by
  obtain ⟨hx, hb, hml, hown, hts, hK, hT, hI, -⟩ := C
  have he := jws_get G S hk
  rw [hsh] at he
  have h2 : a ≤ 2147483647 := by omega
  refine va_zast (D := jD G) hx hb hK hP (jD_of G S hI) hS k 1 he rfl (iI_in h0 h1 h2) hd (fun H1 locs1 hP1 hD1 hS1 => ?_)
  rw [iI_nar hxx] at hP1
  rw [jws_set G S (up2 S k a x) hk ?_ (fun i hi => up2_k S a x hi)] at hP1
  · exact kk H1 locs1 ls hl hP1 hS1
  · rw [hsh]
    show _ = (.inl (_, n, .inl (fun j : Nat => iI (up2 S k a x k j))) : va_E)
    congr 4
    funext j
    unfold upd up2
    rw [iI_cl h0 h2]
    by_cases hj : j = a.toNat
    · rw [if_pos hj, if_pos ⟨rfl, by omega⟩]
    · rw [if_neg hj, if_neg (fun q => hj (by omega))]
theorem J_alen (C : jX E G cc nL own fr lo) {k n : Nat} (hk : k < jn G) (hsh : jsh G k = .inr (false, n)) (hd : decode cc pc = .ok (.arraylength, 1)) (kk : J E G (pc + 1) lv (.int (iI n) :: st) S) : J E G pc lv (.ref (jad G k) :: st) S := fun H locs ls hl hP hS => by
  obtain ⟨hx, hb, hml, hown, hts, hK, hT, hI, -⟩ := C
  have he := jws_get G S hk
  rw [hsh] at he
  exact va_alen (D := jD G) (v := iI n) hx hb hK hP k 0 he rfl Int32.ofInt_eq_ofNat.symm hd (kk H locs ls hl hP hS)
/-- the class's table: its reference, a place of it -/
theorem J_gets (C : jX E G cc nL own fr lo) {idx : Nat} (hw : Cond.fieldLink own idx "PlaceRectangles$Stock" "SIDES_OF_TURNS" "[I" ∈ lw_good) (hd : decode cc pc = .ok (.getstatic idx, 3)) (kk : J E G (pc + 3) lv (.ref (jt G) :: st) S) : J E G pc lv st S := fun H locs ls hl hP hS => by
  obtain ⟨hx, hb, hml, hown, hts, hK, hT, hI, -⟩ := C
  exact va_gets hx hb hT.1 hS hown (hts _ hw) (fun _ h => h) hd (kk H locs ls hl hP hS)
theorem J_tld (C : jX E G cc nL own fr lo) {a : Int} (h0 : 0 ≤ a) (h1 : a < 18) (hd : decode cc pc = .ok (.iaload, 1)) (kk : J E G (pc + 1) lv (.int (iI (sd a)) :: st) S) : J E G pc lv (.int (iI a) :: .ref (jt G) :: st) S := fun H locs ls hl hP hS => by
  obtain ⟨hx, hb, hml, hown, hts, hK, hT, hI, -⟩ := C
  refine va_ti hx hb hT.2.1 hS (iI_in h0 (by omega) (by omega)) (v := .int (iI (sd a))) ?_ hd (kk H locs ls hl hP hS)
  show Value.int (iI (sd ((iI a).toNatClampNeg : Nat))) = _
  rw [iI_cl h0 (by omega), Int.toNat_of_nonneg h0]
/-- ends of methods -/
theorem J_iret (R : jR E G (some .int) post) (C : jX E G cc nL own fr lo) {a : Int} (hd : decode cc pc = .ok (.ireturn, 1)) (h : post (some (.int (iI a))) S) : J E G pc lv [.int (iI a)] S := fun H locs ls hl hP hS => by
  obtain ⟨p, e, RR, s, m, args, below, meth, c, cells, slots, Q⟩ := E
  obtain ⟨hQ, hr, hlk⟩ := R
  obtain ⟨hx, hb, -⟩ := C
  dsimp only at hQ hr hlk hx hb
  subst hQ
  exact W.iret (v := iI a) hx hb hr (fun t ht hW => ⟨⟨_, S, rfl, h, by rw [ht]; exact hP⟩, hS.F ht⟩) hS.2.2 hd hlk
theorem J_zret (R : jR E G (some .boolean) post) (C : jX E G cc nL own fr lo) {a : Int} (hd : decode cc pc = .ok (.ireturn, 1)) (ha : a = 0 ∨ a = 1) (h : post (some (.int (iI a))) S) : J E G pc lv [.int (iI a)] S := fun H locs ls hl hP hS => by
  obtain ⟨p, e, RR, s, m, args, below, meth, c, cells, slots, Q⟩ := E
  obtain ⟨hQ, hr, hlk⟩ := R
  obtain ⟨hx, hb, -⟩ := C
  dsimp only at hQ hr hlk hx hb
  subst hQ
  exact W.zret (v := iI a) (ty := .boolean) hx hb hr (by rcases ha with rfl | rfl <;> decide) (fun t ht hW => ⟨⟨_, S, rfl, h, by rw [ht]; exact hP⟩, hS.F ht⟩) hS.2.2 hd hlk
theorem J_lret (R : jR E G (some .long) post) (C : jX E G cc nL own fr lo) {a : Int} (hd : decode cc pc = .ok (.lreturn, 1)) (h : post (some (.long (iL a))) S) : J E G pc lv [.long (iL a)] S := fun H locs ls hl hP hS => by
  obtain ⟨p, e, RR, s, m, args, below, meth, c, cells, slots, Q⟩ := E
  obtain ⟨hQ, hr, hlk⟩ := R
  obtain ⟨hx, hb, -⟩ := C
  dsimp only at hQ hr hlk hx hb
  subst hQ
  exact W.lret (v := iL a) hx hb hr (fun t ht hW => ⟨⟨_, S, rfl, h, by rw [ht]; exact hP⟩, hS.F ht⟩) hS.2.2 hd hlk
theorem J_vret (R : jR E G none post) (C : jX E G cc nL own fr lo) (hd : decode cc pc = .ok (.return_, 1)) (h : post none S) : J E G pc lv [] S := fun H locs ls hl hP hS => by
  obtain ⟨p, e, RR, s, m, args, below, meth, c, cells, slots, Q⟩ := E
  obtain ⟨hQ, hr, hlk⟩ := R
  obtain ⟨hx, hb, -⟩ := C
  dsimp only at hQ hr hlk hx hb
  subst hQ
  exact W.vret hx hb hr (fun t ht hW => ⟨⟨_, S, rfl, h, by rw [ht]; exact hP⟩, hS.F ht⟩) hS.2.2 hd hlk
end JR
