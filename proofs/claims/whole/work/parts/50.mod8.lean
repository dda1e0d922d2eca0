/-! rows that change at a place -/
def fset (f : Int → Int) (i v : Int) : Int → Int := fun j => if j = i then v else f j
theorem up2_s (S : jMem) (k : Nat) (a v : Int) : up2 S k a v k = fset (S k) a v := by
  funext j; unfold fset
  by_cases h : j = a
  · rw [h, up2_eq, if_pos rfl]
  · rw [up2_a _ _ _ h, if_neg h]
theorem fset_e (f : Int → Int) (i v : Int) : fset f i v i = v := if_pos rfl
theorem fset_n (f : Int → Int) {i j : Int} (v : Int) (h : j ≠ i) : fset f i v j = f j := if_neg h
theorem sOK.bin {n : Int} {len sid tb wt : Int → Int} (h : sOK n len sid tb wt) {x y z : Int} (hx : 1 ≤ x ∧ x ≤ 20) (hy : 1 ≤ y ∧ y ≤ 20) (hz : 1 ≤ z ∧ z ≤ 20) : sOK n (fset (fset (fset len 0 x) 1 y) 2 z) sid tb wt := by
  refine ⟨h.1, fun a a1 a2 => ?_, h.2.2⟩
  unfold fset
  repeat' split
  all_goals first | omega | exact h.2.1 a a1 a2
theorem sOK.box {n : Int} {len sid tb wt : Int → Int} (h : sOK n len sid tb wt) (hn : n < 8) {x y z : Int} (hx : 1 ≤ x ∧ x ≤ 20) (hy : 1 ≤ y ∧ y ≤ 20) (hz : 1 ≤ z ∧ z ≤ 20) : sOK (n + 1) len (fset (fset (fset sid (3 * n) x) (3 * n + 1) y) (3 * n + 2) z) (fset tb n 1) (fset wt n 1) := by
  obtain ⟨h1, h2, h3, h4, h5, h6, h7⟩ := h
  refine ⟨by omega, h2, fun i i1 i2 => ?_, fun i i1 i2 => ?_, fun b b1 b2 => ?_, fun b b1 b2 => ?_, fun b b1 b2 => ?_⟩
  · unfold fset
    repeat' split
    all_goals first | omega | exact h3 i i1 i2
  · unfold fset
    repeat' split
    all_goals first | omega | exact h4 i i1 (by omega)
  · unfold fset
    repeat' split
    all_goals first | omega | exact h5 b b1 b2
  · unfold fset
    repeat' split
    all_goals first | omega | exact h6 b b1 (by omega)
  · unfold fset
    repeat' split
    all_goals first | omega | exact h7 b b1 b2
theorem sOK.turn {n : Int} {len sid tb wt : Int → Int} (h : sOK n len sid tb wt) {b x : Int} (hx : 1 ≤ x ∧ x ≤ 63) : sOK n len sid (fset tb b x) wt := by
  obtain ⟨h1, h2, h3, h4, h5, h6, h7⟩ := h
  refine ⟨h1, h2, h3, h4, fun c b1 b2 => ?_, fun c b1 b2 => ?_, h7⟩
  · unfold fset
    split
    all_goals first | omega | exact h5 c b1 b2
  · unfold fset
    split
    all_goals first | omega | exact h6 c b1 b2
theorem sOK.wts {n : Int} {len sid tb wt : Int → Int} (h : sOK n len sid tb wt) {b x : Int} (hx : 0 ≤ x ∧ x ≤ 1000) : sOK n len sid tb (fset wt b x) := by
  obtain ⟨h1, h2, h3, h4, h5, h6, h7⟩ := h
  refine ⟨h1, h2, h3, h4, h5, h6, fun c b1 b2 => ?_⟩
  unfold fset
  split
  all_goals first | omega | exact h7 c b1 b2
theorem sOK.none {n : Int} {len sid tb wt : Int → Int} (h : sOK n len sid tb wt) : sOK 0 len sid tb wt := ⟨by omega, h.2.1, h.2.2.1, fun i a b => by omega, h.2.2.2.2.1, fun i a b => by omega, h.2.2.2.2.2.2⟩
/-! counting -/
theorem isum_last (f : Int → Int) : ∀ (n : Nat) (i : Int), isum f i (n + 1) = isum f i n + f (i + n)
  | 0, i => by show f i + 0 = 0 + f (i + 0); rw [Int.add_zero i]; omega
  | n + 1, i => by
    have := isum_last f n (i + 1)
    show f i + isum f (i + 1) (n + 1) = f i + isum f (i + 1) n + f (i + ((n + 1 : Nat) : Int))
    rw [this, show i + 1 + (n : Int) = i + ((n + 1 : Nat) : Int) by omega]; omega
noncomputable def pcnt (P : Int → Prop) (v : Int) : Int := isum (fun u => bb (P u)) 0 v.toNat
theorem pcnt_0 (P : Int → Prop) {v : Int} (h : v ≤ 0) : pcnt P v = 0 := by
  unfold pcnt; rw [show v.toNat = 0 by omega]; rfl
theorem pcnt_s (P : Int → Prop) {v : Int} (h : 0 ≤ v) : pcnt P (v + 1) = pcnt P v + bb (P v) := by
  unfold pcnt
  rw [show (v + 1).toNat = v.toNat + 1 by omega, isum_last, Int.zero_add, Int.toNat_of_nonneg h]
theorem pcnt_nn (P : Int → Prop) (v : Int) : 0 ≤ pcnt P v ∧ pcnt P v ≤ max 0 v := by
  have := isum_in (f := fun u => bb (P u)) (B := 1) v.toNat 0 (fun j _ _ => bb_in _)
  unfold pcnt; omega
theorem pcnt_mono (P : Int → Prop) {v w : Int} (h : v ≤ w) : pcnt P v ≤ pcnt P w := by
  obtain ⟨k, hk⟩ := Int.eq_ofNat_of_zero_le (show 0 ≤ w - v by omega)
  have e : w = v + k := by omega
  subst e
  clear h hk
  induction k with
  | zero => rw [show v + ((0 : Nat) : Int) = v by omega]; exact Int.le_refl _
  | succ k ih =>
    by_cases c : 0 ≤ v + (k : Int)
    · have := pcnt_s P c
      have h2 := bb_in (P (v + k))
      rw [show v + ((k + 1 : Nat) : Int) = v + (k : Int) + 1 by omega]
      omega
    · have := pcnt_0 P (v := v) (by omega)
      have := pcnt_0 P (v := v + ((k + 1 : Nat) : Int)) (by omega)
      omega
theorem pcnt_congr {P Q : Int → Prop} {v : Int} (h : ∀ u, 0 ≤ u → u < v → (P u ↔ Q u)) : pcnt P v = pcnt Q v := by
  unfold pcnt
  exact isum_congr _ 0 (fun j a b => bb_c (h j a (by omega)))
/-- the k-th of those that hold -/
def isNth (P : Int → Prop) (k x : Int) : Prop := 0 ≤ x ∧ P x ∧ pcnt P x = k
theorem isNth.uniq {P : Int → Prop} {k x y : Int} (h : isNth P k x) (g : isNth P k y) : x = y := by
  obtain ⟨a1, a2, a3⟩ := h
  obtain ⟨b1, b2, b3⟩ := g
  rcases Int.lt_or_le x y with c | c
  · have := pcnt_mono P (show x + 1 ≤ y by omega)
    rw [pcnt_s P a1, bb_t a2] at this; omega
  · rcases Int.lt_or_le y x with d | d
    · have := pcnt_mono P (show y + 1 ≤ x by omega)
      rw [pcnt_s P b1, bb_t b2] at this; omega
    · omega
theorem isNth.lt {P : Int → Prop} {k x v : Int} (h : isNth P k x) (hk : k < pcnt P v) : x < v := by
  rcases Int.lt_or_le x v with c | c
  · exact c
  · have := pcnt_mono P c
    have := h.2.2; omega
theorem isNth.ex (P : Int → Prop) : ∀ (n : Nat) (k : Int), 0 ≤ k → k < pcnt P n → ∃ x, isNth P k x
  | 0, k, h1, h2 => by
    have := pcnt_0 P (v := ((0 : Nat) : Int)) (by omega)
    omega
  | n + 1, k, h1, h2 => by
    by_cases c : k < pcnt P n
    · exact isNth.ex P n k h1 c
    · have := pcnt_s P (v := n) (by omega)
      rw [show ((n + 1 : Nat) : Int) = (n : Int) + 1 by omega] at h2
      by_cases d : P n
      · rw [bb_t d] at this
        exact ⟨n, by omega, d, by omega⟩
      · rw [bb_f d] at this; omega
theorem isNth.ex2 {P : Int → Prop} {k v : Int} (h1 : 0 ≤ k) (h2 : k < pcnt P v) : ∃ x, isNth P k x := by
  rcases Int.lt_or_le v 0 with c | c
  · rw [pcnt_0 P (by omega)] at h2; omega
  · obtain ⟨m, rfl⟩ := Int.eq_ofNat_of_zero_le c
    exact isNth.ex P m k h1 h2
/-! ways -/
abbrev pC (n : Int) (sid tb : Int → Int) (b a v : Int) : Prop := reach sid tb b a n.toNat v
theorem pmany_cnt (n : Int) (len sid tb : Int → Int) (b t a : Int) : pmany n len sid tb b t a = pcnt (pC n sid tb b a) (len a - pext sid b t a + 1) := by
  unfold pmany pcnt; rw [Int.sub_zero]
theorem pmany_in {n : Int} {len sid tb wt : Int → Int} (hk : sOK n len sid tb wt) {b t a : Int} (hb : 0 ≤ b ∧ b < 8) (ha : 0 ≤ a ∧ a < 3) : 0 ≤ pmany n len sid tb b t a ∧ pmany n len sid tb b t a ≤ 21 := by
  rw [pmany_cnt]
  have h1 := pcnt_nn (pC n sid tb b a) (len a - pext sid b t a + 1)
  have h2 := hk.2.1 a ha.1 ha.2
  have h3 := pext_in hk (b := b) (t := t) (a := a) hb.1 hb.2
  omega
theorem pways_in {n : Int} {len sid tb wt : Int → Int} (hk : sOK n len sid tb wt) {b t : Int} (hb : 0 ≤ b ∧ b < 8) : 0 ≤ pways n len sid tb b t ∧ pways n len sid tb b t ≤ 9261 := by
  have h0 := pmany_in hk (b := b) (t := t) (a := 0) hb (by omega)
  have h1 := pmany_in hk (b := b) (t := t) (a := 1) hb (by omega)
  have h2 := pmany_in hk (b := b) (t := t) (a := 2) hb (by omega)
  have h3 := mul_in (mul_in h0 h1) h2
  have h4 := mul_in (bb_in (pfirst sid tb b t)) h3
  unfold pways; omega
noncomputable def wsum (n : Int) (len sid tb : Int → Int) (b t : Int) : Int := isum (pways n len sid tb b) 0 t.toNat
theorem wsum_s (n : Int) (len sid tb : Int → Int) (b : Int) {t : Int} (h : 0 ≤ t) : wsum n len sid tb b (t + 1) = wsum n len sid tb b t + pways n len sid tb b t := by
  unfold wsum
  rw [show (t + 1).toNat = t.toNat + 1 by omega, isum_last, Int.zero_add, Int.toNat_of_nonneg h]
theorem wsum_0 (n : Int) (len sid tb : Int → Int) (b : Int) : wsum n len sid tb b 0 = 0 := rfl
theorem wsum_6 (n : Int) (len sid tb : Int → Int) (b : Int) : wsum n len sid tb b 6 = 0 + pways n len sid tb b 0 + pways n len sid tb b 1 + pways n len sid tb b 2 + pways n len sid tb b 3 + pways n len sid tb b 4 + pways n len sid tb b 5 := by
  have h0 := wsum_0 n len sid tb b
  have h1 := wsum_s n len sid tb b (t := 0) (by omega)
  have h2 := wsum_s n len sid tb b (t := 1) (by omega)
  have h3 := wsum_s n len sid tb b (t := 2) (by omega)
  have h4 := wsum_s n len sid tb b (t := 3) (by omega)
  have h5 := wsum_s n len sid tb b (t := 4) (by omega)
  have h6 := wsum_s n len sid tb b (t := 5) (by omega)
  rw [show (0 : Int) + 1 = 1 from rfl] at h1
  rw [show (1 : Int) + 1 = 2 from rfl] at h2
  rw [show (2 : Int) + 1 = 3 from rfl] at h3
  rw [show (3 : Int) + 1 = 4 from rfl] at h4
  rw [show (4 : Int) + 1 = 5 from rfl] at h5
  rw [show (5 : Int) + 1 = 6 from rfl] at h6
  omega
theorem wsum_in {n : Int} {len sid tb wt : Int → Int} (hk : sOK n len sid tb wt) {b : Int} (hb : 0 ≤ b ∧ b < 8) : ∀ t : Nat, t ≤ 6 → 0 ≤ wsum n len sid tb b t ∧ wsum n len sid tb b t ≤ t * 9261
  | 0, _ => by rw [show ((0 : Nat) : Int) = 0 from rfl, wsum_0]; omega
  | t + 1, h => by
    have h1 := wsum_in hk hb t (by omega)
    have h2 := wsum_s n len sid tb b (t := t) (by omega)
    have h3 := pways_in hk (b := b) (t := t) hb
    rw [show ((t + 1 : Nat) : Int) = (t : Int) + 1 by omega, h2]; omega
theorem wsum_mono {n : Int} {len sid tb wt : Int → Int} (hk : sOK n len sid tb wt) {b t u : Int} (hb : 0 ≤ b ∧ b < 8) (ht : 0 ≤ t) (h : t ≤ u) : wsum n len sid tb b t ≤ wsum n len sid tb b u := by
  obtain ⟨k, hk2⟩ := Int.eq_ofNat_of_zero_le (show 0 ≤ u - t by omega)
  have e : u = t + k := by omega
  subst e
  clear h hk2
  induction k with
  | zero => rw [show t + ((0 : Nat) : Int) = t by omega]; exact Int.le_refl _
  | succ k ih =>
    have := wsum_s n len sid tb b (t := t + k) (by omega)
    have h2 := pways_in hk (b := b) (t := t + k) hb
    rw [show t + ((k + 1 : Nat) : Int) = t + (k : Int) + 1 by omega]; omega
/-- the way of a box with a number: its turn and its place -/
def isWay (n : Int) (len sid tb : Int → Int) (b w t x y z : Int) : Prop :=
  (0 ≤ t ∧ t < 6) ∧ (wsum n len sid tb b t ≤ w ∧ w < wsum n len sid tb b (t + 1)) ∧ isNth (pC n sid tb b 0) ((w - wsum n len sid tb b t) % pmany n len sid tb b t 0) x ∧ isNth (pC n sid tb b 1) ((w - wsum n len sid tb b t) / pmany n len sid tb b t 0 % pmany n len sid tb b t 1) y ∧ isNth (pC n sid tb b 2) ((w - wsum n len sid tb b t) / pmany n len sid tb b t 0 / pmany n len sid tb b t 1) z
theorem isWay.uniq {n : Int} {len sid tb wt : Int → Int} (hk : sOK n len sid tb wt) {b w t x y z t' x' y' z' : Int} (hb : 0 ≤ b ∧ b < 8) (h : isWay n len sid tb b w t x y z) (g : isWay n len sid tb b w t' x' y' z') : t = t' ∧ x = x' ∧ y = y' ∧ z = z' := by
  obtain ⟨a1, a2, a3, a4, a5⟩ := h
  obtain ⟨b1, b2, b3, b4, b5⟩ := g
  have e : t = t' := by
    rcases Int.lt_or_le t t' with c | c
    · have := wsum_mono hk hb (t := t + 1) (u := t') (by omega) (by omega); omega
    · rcases Int.lt_or_le t' t with d | d
      · have := wsum_mono hk hb (t := t' + 1) (u := t) (by omega) (by omega); omega
      · omega
  subst e
  exact ⟨rfl, a3.uniq b3, a4.uniq b4, a5.uniq b5⟩
/-- a turn with ways, and a number below them: the three digits -/
theorem digits {r x y z : Int} (hr : 0 ≤ r) (hx : 0 ≤ x) (hy : 0 ≤ y) (hz : 0 ≤ z) (h : r < x * y * z) : (0 < x ∧ 0 < y ∧ 0 < z) ∧ (0 ≤ r % x ∧ r % x < x) ∧ (0 ≤ r / x % y ∧ r / x % y < y) ∧ (0 ≤ r / x / y ∧ r / x / y < z) := by
  have px : 0 < x := by
    rcases Int.lt_or_le 0 x with c | c
    · exact c
    · have : x = 0 := by omega
      rw [this, Int.zero_mul, Int.zero_mul] at h; omega
  have py : 0 < y := by
    rcases Int.lt_or_le 0 y with c | c
    · exact c
    · have : y = 0 := by omega
      rw [this, Int.mul_zero, Int.zero_mul] at h; omega
  have pz : 0 < z := by
    rcases Int.lt_or_le 0 z with c | c
    · exact c
    · have : z = 0 := by omega
      rw [this, Int.mul_zero] at h; omega
  refine ⟨⟨px, py, pz⟩, ⟨Int.emod_nonneg _ (by omega), Int.emod_lt_of_pos _ px⟩, ⟨Int.emod_nonneg _ (by omega), Int.emod_lt_of_pos _ py⟩, ?_, ?_⟩
  · exact Int.ediv_nonneg (Int.ediv_nonneg hr hx) hy
  · apply Int.ediv_lt_of_lt_mul py
    apply Int.ediv_lt_of_lt_mul px
    calc r < x * y * z := h
      _ = z * y * x := by rw [Int.mul_comm x y, Int.mul_assoc, Int.mul_comm (y) (x * z), Int.mul_comm x z, Int.mul_assoc, Int.mul_comm x y, ← Int.mul_assoc]
theorem isWay.dig {n : Int} {len sid tb wt : Int → Int} (hk : sOK n len sid tb wt) {b w t : Int} (hb : 0 ≤ b ∧ b < 8) (ht : 0 ≤ t ∧ t < 6) (h1 : wsum n len sid tb b t ≤ w) (h2 : w < wsum n len sid tb b (t + 1)) : pfirst sid tb b t ∧ (0 < pmany n len sid tb b t 0 ∧ 0 < pmany n len sid tb b t 1 ∧ 0 < pmany n len sid tb b t 2) ∧ (0 ≤ (w - wsum n len sid tb b t) % pmany n len sid tb b t 0 ∧ (w - wsum n len sid tb b t) % pmany n len sid tb b t 0 < pmany n len sid tb b t 0) ∧ (0 ≤ (w - wsum n len sid tb b t) / pmany n len sid tb b t 0 % pmany n len sid tb b t 1 ∧ (w - wsum n len sid tb b t) / pmany n len sid tb b t 0 % pmany n len sid tb b t 1 < pmany n len sid tb b t 1) ∧ (0 ≤ (w - wsum n len sid tb b t) / pmany n len sid tb b t 0 / pmany n len sid tb b t 1 ∧ (w - wsum n len sid tb b t) / pmany n len sid tb b t 0 / pmany n len sid tb b t 1 < pmany n len sid tb b t 2) := by
  rw [wsum_s _ _ _ _ _ ht.1] at h2
  have m0 := pmany_in hk (b := b) (t := t) (a := 0) hb (by omega)
  have m1 := pmany_in hk (b := b) (t := t) (a := 1) hb (by omega)
  have m2 := pmany_in hk (b := b) (t := t) (a := 2) hb (by omega)
  by_cases hf : pfirst sid tb b t
  · unfold pways at h2
    rw [bb_mul_t hf] at h2
    exact ⟨hf, digits (by omega) m0.1 m1.1 m2.1 (by omega)⟩
  · unfold pways at h2
    rw [bb_mul_f hf] at h2; omega
theorem isWay.in {n : Int} {len sid tb wt : Int → Int} (hk : sOK n len sid tb wt) {b w t x y z : Int} (hb : 0 ≤ b ∧ b < 8) (h : isWay n len sid tb b w t x y z) : pfirst sid tb b t ∧ (0 ≤ x ∧ x ≤ len 0 - pext sid b t 0) ∧ (0 ≤ y ∧ y ≤ len 1 - pext sid b t 1) ∧ (0 ≤ z ∧ z ≤ len 2 - pext sid b t 2) := by
  obtain ⟨a1, a2, a3, a4, a5⟩ := h
  obtain ⟨hf, -, d0, d1, d2⟩ := isWay.dig hk hb a1 a2.1 a2.2
  have e0 := a3.lt (v := len 0 - pext sid b t 0 + 1) (by rw [← pmany_cnt]; exact d0.2)
  have e1 := a4.lt (v := len 1 - pext sid b t 1 + 1) (by rw [← pmany_cnt]; exact d1.2)
  have e2 := a5.lt (v := len 2 - pext sid b t 2 + 1) (by rw [← pmany_cnt]; exact d2.2)
  exact ⟨hf, ⟨a3.1, by omega⟩, ⟨a4.1, by omega⟩, ⟨a5.1, by omega⟩⟩
theorem isWay.ex {n : Int} {len sid tb wt : Int → Int} (hk : sOK n len sid tb wt) {b w t : Int} (hb : 0 ≤ b ∧ b < 8) (ht : 0 ≤ t ∧ t < 6) (h1 : wsum n len sid tb b t ≤ w) (h2 : w < wsum n len sid tb b (t + 1)) : ∃ x y z, isWay n len sid tb b w t x y z := by
  obtain ⟨-, -, d0, d1, d2⟩ := isWay.dig hk hb ht h1 h2
  obtain ⟨x, hx⟩ := isNth.ex2 (P := pC n sid tb b 0) d0.1 (by rw [← pmany_cnt]; exact d0.2)
  obtain ⟨y, hy⟩ := isNth.ex2 (P := pC n sid tb b 1) d1.1 (by rw [← pmany_cnt]; exact d1.2)
  obtain ⟨z, hz⟩ := isNth.ex2 (P := pC n sid tb b 2) d2.1 (by rw [← pmany_cnt]; exact d2.2)
  exact ⟨x, y, z, ht, ⟨h1, h2⟩, hx, hy, hz⟩
theorem isWay.turn {n : Int} {len sid tb wt : Int → Int} (hk : sOK n len sid tb wt) {b w : Int} (hb : 0 ≤ b ∧ b < 8) (h0 : 0 ≤ w) : ∀ t : Nat, w < wsum n len sid tb b t → t ≤ 6 → ∃ u : Int, (0 ≤ u ∧ u < t) ∧ wsum n len sid tb b u ≤ w ∧ w < wsum n len sid tb b (u + 1)
  | 0, h, _ => by rw [show ((0 : Nat) : Int) = 0 from rfl, wsum_0] at h; omega
  | t + 1, h, h6 => by
    by_cases c : w < wsum n len sid tb b t
    · obtain ⟨u, u1, u2⟩ := isWay.turn hk hb h0 t c (by omega)
      exact ⟨u, by omega, u2⟩
    · exact ⟨t, by omega, by omega, by rw [show (t : Int) + 1 = ((t + 1 : Nat) : Int) by omega]; exact h⟩
theorem isWay.all {n : Int} {len sid tb wt : Int → Int} (hk : sOK n len sid tb wt) {b w : Int} (hb : 0 ≤ b ∧ b < 8) (h0 : 0 ≤ w) (h : w < wsum n len sid tb b 6) : ∃ t x y z, isWay n len sid tb b w t x y z := by
  obtain ⟨t, t1, t2, t3⟩ := isWay.turn hk hb h0 6 h (by omega)
  obtain ⟨x, y, z, hh⟩ := isWay.ex hk hb (by omega) t2 t3
  exact ⟨t, x, y, z, hh⟩
