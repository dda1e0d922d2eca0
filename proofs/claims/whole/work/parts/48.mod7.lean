/-! the tables that the model makes anew -/
noncomputable def pways (n : Int) (len sid tb : Int → Int) (b t : Int) : Int := bb (pfirst sid tb b t) * (pmany n len sid tb b t 0 * pmany n len sid tb b t 1 * pmany n len sid tb b t 2)
def tSum (n : Int) (sid tb f : Int → Int) (c : Int) : Prop := ∀ b a u : Int, 0 ≤ b → 0 ≤ a → a < 3 → 3 * b + a < c → 0 ≤ u → u < 142 → f (142 * (3 * b + a) + u) = bb (reach sid tb b a n.toNat u)
def tMany (n : Int) (len sid tb f : Int → Int) (c : Int) : Prop := ∀ b t a : Int, 0 ≤ b → 0 ≤ a → a < 3 → 0 ≤ t → t < 6 → 3 * b + a < c → f (18 * b + 3 * t + a) = pmany n len sid tb b t a
def tMany1 (n : Int) (len sid tb f : Int → Int) (b a t : Int) : Prop := ∀ u : Int, 0 ≤ u → u < t → f (18 * b + 3 * u + a) = pmany n len sid tb b u a
def tWays (n : Int) (len sid tb f : Int → Int) (w : Int) : Prop := ∀ b t : Int, 0 ≤ b → 0 ≤ t → t < 6 → 6 * b + t < w → f (6 * b + t) = pways n len sid tb b t
/-- the model's tables stand -/
def mS (S : jMem) : Prop := isOrd (pvol (S 2)) (S 0 1).toNat (S 7) ∧ tSum (S 0 1) (S 2) (S 4) (S 11) (3 * S 0 1) ∧ tMany (S 0 1) (S 1) (S 2) (S 4) (S 12) (3 * S 0 1) ∧ tWays (S 0 1) (S 1) (S 2) (S 4) (S 13) (6 * S 0 1)
def anI (S0 : jMem) (b a : Int) (S : jMem) : Prop := keeps [11, 12, 13] S0 S ∧ tSum (S0 0 1) (S0 2) (S0 4) (S 11) (3 * b + a) ∧ tMany (S0 0 1) (S0 1) (S0 2) (S0 4) (S 12) (3 * b + a) ∧ tWays (S0 0 1) (S0 1) (S0 2) (S0 4) (S 13) (6 * b)
def anT (S0 : jMem) (b a t : Int) (S : jMem) : Prop := keeps [11, 12, 13] S0 S ∧ tSum (S0 0 1) (S0 2) (S0 4) (S 11) (3 * b + a + 1) ∧ (tMany (S0 0 1) (S0 1) (S0 2) (S0 4) (S 12) (3 * b + a) ∧ tMany1 (S0 0 1) (S0 1) (S0 2) (S0 4) (S 12) b a t) ∧ tWays (S0 0 1) (S0 1) (S0 2) (S0 4) (S 13) (6 * b)
def anW (S0 : jMem) (b t : Int) (S : jMem) : Prop := keeps [11, 12, 13] S0 S ∧ tSum (S0 0 1) (S0 2) (S0 4) (S 11) (3 * b + 3) ∧ tMany (S0 0 1) (S0 1) (S0 2) (S0 4) (S 12) (3 * b + 3) ∧ tWays (S0 0 1) (S0 1) (S0 2) (S0 4) (S 13) (6 * b + t)
theorem anI.sum {S0 S S1 : jMem} {b a : Int} (h : anI S0 b a S) (hb : 0 ≤ b) (ha : 0 ≤ a ∧ a < 3) (h2 : sumI S b a (S 0 1).toNat S1) : anT S0 b a 0 S1 := by
  obtain ⟨h1, hs, hm, hw⟩ := h
  obtain ⟨k1, k2, k3⟩ := h2
  refine ⟨h1.on (by decide) k1, fun b' a' u b1 a1 a2 hc u1 u2 => ?_, ⟨by rw [k1 12 (by decide)]; exact hm, fun u u1 u2 => by omega⟩, by rw [k1 13 (by decide)]; exact hw⟩
  by_cases e : 3 * b' + a' = 3 * b + a
  · have eb : b' = b := by omega
    have ea : a' = a := by omega
    subst eb; subst ea
    have e0 : S 0 1 = S0 0 1 := by rw [h1 0 (by decide)]
    rw [k3 u u1 u2, h1 2 (by decide), h1 4 (by decide), e0]
  · rw [k2 _ (by omega)]
    exact hs b' a' u b1 a1 a2 (by omega) u1 u2
theorem anT.put {S0 S : jMem} {b a t v : Int} (h : anT S0 b a t S) (ht : 0 ≤ t ∧ t < 6) (hb : 0 ≤ b) (ha : 0 ≤ a ∧ a < 3) (hv : v = pmany (S0 0 1) (S0 1) (S0 2) (S0 4) b t a) : anT S0 b a (t + 1) (up2 S 12 (18 * b + 3 * t + a) v) := by
  obtain ⟨h1, hs, ⟨hm, hm1⟩, hw⟩ := h
  refine ⟨h1.up (by decide) _ _, by rw [up2_k _ _ _ (by decide)]; exact hs, ⟨fun b' t' a' b1 a1 a2 t1 t2 hc => ?_, fun u u1 u2 => ?_⟩, by rw [up2_k _ _ _ (by decide)]; exact hw⟩
  · rw [up2_a _ _ _ (by omega)]; exact hm b' t' a' b1 a1 a2 t1 t2 hc
  · by_cases e : u = t
    · subst e; rw [up2_eq]; exact hv
    · rw [up2_a _ _ _ (by omega)]; exact hm1 u u1 (by omega)
theorem anT.done {S0 S : jMem} {b a t : Int} (h : anT S0 b a t S) (ht : 6 ≤ t) (hb : 0 ≤ b) (ha : 0 ≤ a ∧ a < 3) : anI S0 b (a + 1) S := by
  obtain ⟨h1, hs, ⟨hm, hm1⟩, hw⟩ := h
  refine ⟨h1, fun b' a' u b1 a1 a2 hc u1 u2 => hs b' a' u b1 a1 a2 (by omega) u1 u2, fun b' t' a' b1 a1 a2 t1 t2 hc => ?_, hw⟩
  by_cases e : 3 * b' + a' = 3 * b + a
  · have eb : b' = b := by omega
    have ea : a' = a := by omega
    subst eb; subst ea; exact hm1 t' t1 (by omega)
  · exact hm b' t' a' b1 a1 a2 t1 t2 (by omega)
theorem anT.cnt {S0 S : jMem} {b a t : Int} (h : anT S0 b a t S) (hk : mOK S0) (hb : 0 ≤ b ∧ b < 8) (ha : 0 ≤ a ∧ a < 3) : isum (fun v => S 11 (142 * (3 * b + a) + v)) 0 (S 1 a - pext (S 2) b t a + 1 - 0).toNat = pmany (S0 0 1) (S0 1) (S0 2) (S0 4) b t a := by
  unfold pmany
  rw [h.1 1 (by decide), h.1 2 (by decide)]
  have h3 := hk.2.1 a ha.1 ha.2
  have h4 := pext_in hk (b := b) (t := t) (a := a) hb.1 hb.2
  exact isum_congr _ 0 (fun j j1 j2 => h.2.1 b a j hb.1 ha.1 ha.2 (by omega) j1 (by omega))
theorem anT.z1 {S0 S : jMem} {b a t : Int} (h : anT S0 b a t S) (hb : 0 ≤ b) (ha : 0 ≤ a ∧ a < 3) : ∀ v, 0 ≤ v → v < 142 → S 11 (142 * (3 * b + a) + v) = 0 ∨ S 11 (142 * (3 * b + a) + v) = 1 := fun v v1 v2 => by
  rw [h.2.1 b a v hb ha.1 ha.2 (by omega) v1 v2]; exact bb_or _
theorem anI.w {S0 S : jMem} {b : Int} (h : anI S0 b 3 S) : anW S0 b 0 S := ⟨h.1, h.2.1, h.2.2.1, by rw [Int.add_zero]; exact h.2.2.2⟩
theorem anW.put {S0 S : jMem} {b t v : Int} (h : anW S0 b t S) (ht : 0 ≤ t ∧ t < 6) (hb : 0 ≤ b) (hv : v = pways (S0 0 1) (S0 1) (S0 2) (S0 4) b t) : anW S0 b (t + 1) (up2 S 13 (6 * b + t) v) := by
  obtain ⟨h1, hs, hm, hw⟩ := h
  refine ⟨h1.up (by decide) _ _, by rw [up2_k _ _ _ (by decide)]; exact hs, by rw [up2_k _ _ _ (by decide)]; exact hm, fun b' t' b1 t1 t2 hc => ?_⟩
  by_cases e : 6 * b' + t' = 6 * b + t
  · have eb : b' = b := by omega
    have et : t' = t := by omega
    subst eb; subst et; rw [up2_eq]; exact hv
  · rw [up2_a _ _ _ e]; exact hw b' t' b1 t1 t2 (by omega)
theorem anW.done {S0 S : jMem} {b t : Int} (h : anW S0 b t S) (ht : 6 ≤ t) : anI S0 (b + 1) 0 S := by
  obtain ⟨h1, hs, hm, hw⟩ := h
  refine ⟨h1, fun b' a' u b1 a1 a2 hc u1 u2 => hs b' a' u b1 a1 a2 (by omega) u1 u2, fun b' t' a' b1 a1 a2 t1 t2 hc => hm b' t' a' b1 a1 a2 t1 t2 (by omega), fun b' t' b1 t1 t2 hc => hw b' t' b1 t1 t2 (by omega)⟩
theorem anW.many {S0 S : jMem} {b t u a : Int} (h : anW S0 b t S) (hb : 0 ≤ b) (ha : 0 ≤ a ∧ a < 3) (hu : 0 ≤ u ∧ u < 6) : S 12 (18 * b + 3 * u + a) = pmany (S0 0 1) (S0 1) (S0 2) (S0 4) b u a := h.2.2.1 b u a hb ha.1 ha.2 hu.1 hu.2 (by omega)
def an1 (S0 : jMem) (k : Int) (S : jMem) : Prop := keeps [5, 7, 8] S0 S ∧ ∀ j, 0 ≤ j → j < k → S 5 j = 0 ∧ S 8 j = 0 ∧ S 7 j = j
theorem an1.put {S0 S : jMem} {k : Int} (h : an1 S0 k S) : an1 S0 (k + 1) (up2 (up2 (up2 S 5 k 0) 8 k 0) 7 k k) := by
  refine ⟨((h.1.up (by decide) _ _).up (by decide) _ _).up (by decide) _ _, fun j j1 j2 => ?_⟩
  by_cases e : j = k
  · subst e
    refine ⟨?_, ?_, up2_eq _ _ _ _⟩
    · rw [up2_k _ _ _ (by decide), up2_k _ _ _ (by decide), up2_eq]
    · rw [up2_k _ _ _ (by decide), up2_eq]
  · have hj := h.2 j j1 (by omega)
    refine ⟨?_, ?_, ?_⟩
    · rw [up2_k _ _ _ (by decide), up2_k _ _ _ (by decide), up2_a _ _ _ e]; exact hj.1
    · rw [up2_k _ _ _ (by decide), up2_a _ _ _ e, up2_k _ _ _ (by decide)]; exact hj.2.1
    · rw [up2_a _ _ _ e, up2_k _ _ _ (by decide), up2_k _ _ _ (by decide)]; exact hj.2.2
def an2 (S0 : jMem) (k : Int) (S : jMem) : Prop := keeps [7] S0 S ∧ isOrd (pvol (S0 2)) k.toNat (S 7) ∧ ∀ j, k ≤ j → j < 8 → S 7 j = j
def an3 (S0 : jMem) (k : Int) (f : Int → Int) (i : Int) (S : jMem) : Prop := keeps [7] S0 S ∧ swI (pvol (S0 2)) f k i (S 7) ∧ ∀ j, k < j → j < 8 → S 7 j = j
theorem an2.go {S0 S : jMem} {k : Int} (h : an2 S0 k S) (hk : 0 ≤ k ∧ k < 8) : an3 S0 k (S 7) k S := ⟨h.1, ⟨by omega, fun _ _ _ => rfl, h.2.2 k (by omega) hk.2, fun j a b => by omega, fun j a b => by omega⟩, fun j a b => h.2.2 j (by omega) b⟩
theorem an3.done {S0 S : jMem} {k i : Int} {f : Int → Int} (h : an3 S0 k f i S) (hk : 0 ≤ k) (hf : isOrd (pvol (S0 2)) k.toNat f) (he : i ≤ 0 ∨ pvol (S0 2) k ≤ pvol (S0 2) (f (i - 1))) : an2 S0 (k + 1) S := by
  refine ⟨h.1, ?_, fun j a b => h.2.2 j (by omega) b⟩
  have e : (k + 1).toNat = k.toNat + 1 := by omega
  rw [e]
  refine ⟨f, hf, ?_⟩
  rw [Int.toNat_of_nonneg hk]
  exact h.2.1.done he
theorem an3.step {S0 S : jMem} {k i : Int} {f : Int → Int} (h : an3 S0 k f i S) (hi : 0 < i ∧ i ≤ k) (hv : pvol (S0 2) (f (i - 1)) < pvol (S0 2) k) : an3 S0 k f (i - 1) (up2 (up2 S 7 i (S 7 (i - 1))) 7 (i - 1) (S 7 i)) := by
  refine ⟨(h.1.up (by decide) _ _).up (by decide) _ _, h.2.1.step hi.1 hv ?_ ?_ (fun j a b => ?_), fun j a b => ?_⟩
  · rw [up2_a _ _ _ (by omega), up2_eq]
  · rw [up2_eq]; exact h.2.1.2.2.1
  · rw [up2_a _ _ _ b, up2_a _ _ _ a]
  · rw [up2_a _ _ _ (by omega), up2_a _ _ _ (by omega)]; exact h.2.2 j a b
/-- what beginning anew makes of a memory -/
def mAnew (S0 S : jMem) : Prop := keeps [0, 5, 7, 8, 11, 12, 13] S0 S ∧ mS S ∧ (S 0 1 = S0 0 1 ∧ S 0 7 = bb (S0 0 1 = 0) ∧ S 0 8 = 0 ∧ S 0 9 = 0 ∧ S 0 25 = 0) ∧ (∀ j, 0 ≤ j → j < 8 → S 5 j = 0) ∧ ∀ j, 0 ≤ j → j < 8 → S 8 j = 0
