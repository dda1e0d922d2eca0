/-! bits as whole numbers -/
theorem iI_and1 (a : Int) (ha : inR a) : iI a &&& iI 1 = iI (a % 2) := by
  apply Int32.toBitVec.inj
  rw [Int32.toBitVec_and, iI_bv, iI_bv, iI_bv]
  apply BitVec.eq_of_toNat_eq
  rw [BitVec.toNat_and]
  have h1 : (BitVec.ofInt 32 1).toNat = 2 ^ 1 - 1 := by decide
  rw [h1, Nat.and_two_pow_sub_one_eq_mod, BitVec.toNat_ofInt, BitVec.toNat_ofInt]
  omega
def zand (a b : Int) : Int := ((a.toNat &&& b.toNat : Nat) : Int)
def zor (a b : Int) : Int := ((a.toNat ||| b.toNat : Nat) : Int)
def zandn (a b : Int) : Int := ((andn a.toNat b.toNat : Nat) : Int)
theorem iI_zand {a b : Int} (ha : 0 ≤ a) (ha2 : a ≤ 2147483647) (hb : 0 ≤ b) (hb2 : b ≤ 2147483647) : iI a &&& iI b = iI (zand a b) := by
  obtain ⟨x, rfl⟩ := Int.eq_ofNat_of_zero_le ha
  obtain ⟨y, rfl⟩ := Int.eq_ofNat_of_zero_le hb
  exact iI_and x y (by omega) (by omega)
theorem iI_zor {a b : Int} (ha : 0 ≤ a) (ha2 : a ≤ 2147483647) (hb : 0 ≤ b) (hb2 : b ≤ 2147483647) : iI a ||| iI b = iI (zor a b) := by
  obtain ⟨x, rfl⟩ := Int.eq_ofNat_of_zero_le ha
  obtain ⟨y, rfl⟩ := Int.eq_ofNat_of_zero_le hb
  exact iI_or x y (by omega) (by omega)
theorem iI_zandn {a b : Int} (ha : 0 ≤ a) (ha2 : a ≤ 2147483647) (hb : 0 ≤ b) (hb2 : b ≤ 2147483647) : iI a &&& iI (-b - 1) = iI (zandn a b) := by
  obtain ⟨x, rfl⟩ := Int.eq_ofNat_of_zero_le ha
  obtain ⟨y, rfl⟩ := Int.eq_ofNat_of_zero_le hb
  exact iI_andn x y (by omega) (by omega)
section Mz
variable {E : jEnv} {G : jG} {cc : ByteArray} {nL fr lo pc : Nat} {lv : List (Nat × Value)} {st : List Value} {S : jMem} {own : String} {a x : Int}
theorem mzld (hG : mG G) (C : jX E G cc nL own fr lo) (hd : decode cc pc = .ok (.baload, 1)) (h0 : 0 ≤ a) (h1 : a < 3408) (kk : J E G (pc + 1) lv (.int (iI (S 11 a)) :: st) S) : J E G pc lv (.int (iI a) :: .ref (jad G 11) :: st) S := J_zld (n := 3408) C (by rw [hG.2]; decide) (by rw [hG.1]; rfl) (by decide) h0 h1 hd kk
theorem mzst (hG : mG G) (C : jX E G cc nL own fr lo) (hd : decode cc pc = .ok (.bastore, 1)) (h0 : 0 ≤ a) (h1 : a < 3408) (hx : x = 0 ∨ x = 1) (kk : J E G (pc + 1) lv st (up2 S 11 a x)) : J E G pc lv (.int (iI x) :: .int (iI a) :: .ref (jad G 11) :: st) S := J_zst (n := 3408) C (by rw [hG.2]; decide) (by rw [hG.1]; rfl) (by decide) h0 h1 hx hd kk
end Mz
/-! what is told of boxes: sides, turns, extents -/
theorem sd_in (x : Int) : 0 ≤ sd x ∧ sd x ≤ 2 := by
  unfold sd
  generalize x.toNat = n
  by_cases h : n < 18
  · have : ∀ k, k < 18 → 0 ≤ ([0, 1, 2, 0, 2, 1, 1, 0, 2, 1, 2, 0, 2, 0, 1, 2, 1, 0] : List Int).getD k 0 ∧ ([0, 1, 2, 0, 2, 1, 1, 0, 2, 1, 2, 0, 2, 0, 1, 2, 1, 0] : List Int).getD k 0 ≤ 2 := by decide
    exact this n h
  · have hn : ([0, 1, 2, 0, 2, 1, 1, 0, 2, 1, 2, 0, 2, 0, 1, 2, 1, 0] : List Int)[n]? = none := List.getElem?_eq_none (by simpa using h)
    rw [List.getD_eq_getElem?_getD, hn]
    decide
def pext (sid : Int → Int) (b t a : Int) : Int := sid (b * 3 + sd (t * 3 + a))
abbrev phas (tb : Int → Int) (b t : Int) : Prop := tb b / 2 ^ t.toNat % 2 = 1
/-- of the bin and the boxes: how many boxes, lengths, sides, turns, weights -/
def sOK (n : Int) (len sid tb wt : Int → Int) : Prop :=
  (0 ≤ n ∧ n ≤ 8) ∧ (∀ a, 0 ≤ a → a < 3 → 1 ≤ len a ∧ len a ≤ 20) ∧ (∀ i, 0 ≤ i → i < 24 → 0 ≤ sid i ∧ sid i ≤ 20) ∧ (∀ i, 0 ≤ i → i < n * 3 → 1 ≤ sid i) ∧ (∀ b, 0 ≤ b → b < 8 → 0 ≤ tb b ∧ tb b ≤ 63) ∧ (∀ b, 0 ≤ b → b < n → 1 ≤ tb b) ∧ (∀ b, 0 ≤ b → b < 8 → 0 ≤ wt b ∧ wt b ≤ 1000)
abbrev cOK (S : jMem) : Prop := sOK (S 1 4) (S 2) (S 3) (S 4) (S 5)
abbrev mOK (M : jMem) : Prop := sOK (M 0 1) (M 1) (M 2) (M 4) (M 3)
theorem pext_in {n : Int} {len sid tb wt : Int → Int} (h : sOK n len sid tb wt) {b t a : Int} (hb : 0 ≤ b) (hb2 : b < 8) : 0 ≤ pext sid b t a ∧ pext sid b t a ≤ 20 := by
  have := sd_in (t * 3 + a)
  exact h.2.2.1 _ (by omega) (by omega)
theorem pext_pos {n : Int} {len sid tb wt : Int → Int} (h : sOK n len sid tb wt) {b t a : Int} (hb : 0 ≤ b) (hb2 : b < n) : 1 ≤ pext sid b t a := by
  have := sd_in (t * 3 + a)
  exact h.2.2.2.1 _ (by omega) (by omega)
/-! answers that are yes or no -/
noncomputable def bb (p : Prop) : Int := @ite Int p (Classical.propDecidable p) 1 0
theorem bb_t {p : Prop} (h : p) : bb p = 1 := if_pos h
theorem bb_f {p : Prop} (h : ¬ p) : bb p = 0 := if_neg h
theorem bb_in (p : Prop) : 0 ≤ bb p ∧ bb p ≤ 1 := by
  unfold bb; by_cases h : p
  · rw [if_pos h]; omega
  · rw [if_neg h]; omega
theorem bb_or (p : Prop) : bb p = 0 ∨ bb p = 1 := by
  unfold bb; by_cases h : p
  · rw [if_pos h]; exact Or.inr rfl
  · rw [if_neg h]; exact Or.inl rfl
theorem bb_0 {p : Prop} : bb p = 0 ↔ ¬ p := by
  unfold bb; by_cases h : p
  · rw [if_pos h]; simp [h]
  · rw [if_neg h]; simp [h]
theorem bb_1 {p : Prop} : bb p = 1 ↔ p := by
  unfold bb; by_cases h : p
  · rw [if_pos h]; simp [h]
  · rw [if_neg h]; simp [h]
theorem bb_c {p q : Prop} (h : p ↔ q) : bb p = bb q := by
  unfold bb; by_cases hp : p
  · rw [if_pos hp, if_pos (h.mp hp)]
  · rw [if_neg hp, if_neg (fun x => hp (h.mpr x))]
section JB
variable {E : jEnv} {G : jG} {cc : ByteArray} {nL : Nat} {own : String} {fr lo : Nat} {pc : Nat} {lv : List (Nat × Value)} {st : List Value} {S : jMem}
theorem J_if_eq_b (C : jX E G cc nL own fr lo) {p : Prop} {off : Int} (tgt : Nat) (hd : decode cc pc = .ok (.ifCond .eq off, 3)) (ht : (pc : Int) + off = (tgt : Int)) (kt : ¬ p → J E G tgt lv st S) (kf : p → J E G (pc + 3) lv st S) : J E G pc lv (.int (iI (bb p)) :: st) S := J_if_eq C tgt hd ht (by have := bb_in p; omega) (fun h => kt (bb_0.mp h)) (fun h => kf (Classical.not_not.mp (fun x => h (bb_0.mpr x))))
theorem J_if_ne_b (C : jX E G cc nL own fr lo) {p : Prop} {off : Int} (tgt : Nat) (hd : decode cc pc = .ok (.ifCond .ne off, 3)) (ht : (pc : Int) + off = (tgt : Int)) (kt : p → J E G tgt lv st S) (kf : ¬ p → J E G (pc + 3) lv st S) : J E G pc lv (.int (iI (bb p)) :: st) S := J_if_ne C tgt hd ht (by have := bb_in p; omega) (fun h => kt (Classical.not_not.mp (fun x => h (bb_0.mpr x)))) (fun h => kf (bb_0.mp h))
end JB
theorem zdiv_in {x : Int} (h : 0 ≤ x) (k : Nat) : 0 ≤ x / 2 ^ k ∧ x / 2 ^ k ≤ x := ⟨Int.ediv_nonneg h (Int.le_of_lt (Int.pow_pos (by decide))), Int.ediv_le_self _ h⟩
abbrev psame (sid : Int → Int) (b t u : Int) : Prop := pext sid b t 0 = pext sid b u 0 ∧ pext sid b t 1 = pext sid b u 1 ∧ pext sid b t 2 = pext sid b u 2
abbrev pshort (len sid : Int → Int) (b t : Int) : Prop := pext sid b t 0 ≤ len 0 ∧ pext sid b t 1 ≤ len 1 ∧ pext sid b t 2 ≤ len 2
/-- a turn of a box that it has, that fits, and that has none like it ahead -/
def pcounts (len sid tb : Int → Int) (b t : Int) : Prop := phas tb b t ∧ pshort len sid b t ∧ ∀ u, 0 ≤ u → u < t → ¬ (phas tb b u ∧ psame sid b u t)
/-- a place of a box -/
abbrev pplace (n : Int) (len sid tb : Int → Int) (b t x y z : Int) : Prop := (0 ≤ b ∧ b < n) ∧ (0 ≤ t ∧ t < 6) ∧ phas tb b t ∧ (0 ≤ x ∧ x ≤ len 0 - pext sid b t 0) ∧ (0 ≤ y ∧ y ≤ len 1 - pext sid b t 1) ∧ (0 ≤ z ∧ z ≤ len 2 - pext sid b t 2)
/-- a box has a place that does not overlap another one's: a turn that counts, and room before or behind on an axis -/
def proom (len sid tb : Int → Int) (o b t x y z : Int) : Prop := ∃ u, (0 ≤ u ∧ u < 6) ∧ pcounts len sid tb o u ∧ (pext sid o u 0 ≤ max x (len 0 - x - pext sid b t 0) ∨ pext sid o u 1 ≤ max y (len 1 - y - pext sid b t 1) ∨ pext sid o u 2 ≤ max z (len 2 - z - pext sid b t 2))
/-- a contract of a method of the JDK's -/
theorem jM.ofF {G : jG} {y : MethodName} {cc : ByteArray} {nL : Nat} {ret : Option FieldType} {fr lo : Nat} {av : List Value} {S : jMem} {post : Option Value → jMem → Prop} (hy : plainFor y = true) (hlen : (lg_sl av).length ≤ nL)
    (body : ∀ E : jEnv, jX E G cc nL y.cls fr lo → jR E G ret post → J E G 0 (lv_args 0 av) [] S) : jM G y cc nL ret fr lo av S post := by
  unfold jM Met
  refine MetFree.of_bodySF (code := cc) (maxLocals := nL) (ret := ret) hy ?_ ?_
  · intro args s m h hn
    obtain ⟨meth, c, h1, h2, h3, h4, h5, h6, -, -⟩ := Cond.code_spec hn (atoms_spec (ws := .code y cc nL ret :: lw_good) h _ List.mem_cons_self)
    exact ⟨meth, c, h1, h2, h3, h4, h5, h6⟩
  · intro p e s m args below meth c s₁ B hml hv _
    obtain ⟨rfl, hP, hK, hT, hI⟩ := hv
    have hts := atoms_spec (ws := .code y cc nL ret :: lw_good) B.pre
    have hl := lv_entry av (n := nL) hlen
    have hh0 : s₁.heap = s.heap := by rw [B.state]; rfl
    have key := body (p, e, ({ frames := fr, cells := 0, slots := 0, locals := lo } : Room), s, m, av.toArray, below, meth, c, 0, 0, MQ below (jQ G post) av.toArray s 0 0 (jA G)) ⟨B.exec, B.bytes, hml, findClass_of_methodNamed B.named, fun w hw => hts w (List.mem_cons_of_mem _ hw), hK, hT, hI, Nat.le_refl _, Nat.le_refl _, Nat.zero_le _, Nat.zero_le _⟩ ⟨rfl, B.returns, B.notSynchronized⟩ s.heap [] _ (by show lv_has _ c.maxLocals _; rw [hml]; exact hl) hP va_S.rf
    rw [lg_entry_eq]
    obtain ⟨t, a1, o, b1, b2, b3⟩ := key s₁ hh0 (Stand.of_body B)
    exact ⟨t, o, a1, b1, b2, ⟨b3.1, b3.2⟩⟩
