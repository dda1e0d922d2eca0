/-! sums over rows of numbers -/
def isum (f : Int → Int) : Int → Nat → Int
  | _, 0 => 0
  | i, n + 1 => f i + isum f (i + 1) n
theorem isum_step (f : Int → Int) {i hi : Int} (h : i < hi) : isum f i (hi - i).toNat = f i + isum f (i + 1) (hi - (i + 1)).toNat := by
  have e : (hi - i).toNat = (hi - (i + 1)).toNat + 1 := by omega
  rw [e]; rfl
theorem isum_end (f : Int → Int) {i hi : Int} (h : hi ≤ i) : isum f i (hi - i).toNat = 0 := by
  have e : (hi - i).toNat = 0 := by omega
  rw [e]; rfl
theorem isum_congr {f g : Int → Int} : ∀ (n : Nat) (i : Int), (∀ j, i ≤ j → j < i + n → f j = g j) → isum f i n = isum g i n
  | 0, _, _ => rfl
  | n + 1, i, h => by
    show f i + isum f (i + 1) n = g i + isum g (i + 1) n
    rw [h i (by omega) (by omega), isum_congr n (i + 1) (fun j h1 h2 => h j (by omega) (by omega))]
theorem isum_in {f : Int → Int} {B : Int} : ∀ (n : Nat) (i : Int), (∀ j, i ≤ j → j < i + n → 0 ≤ f j ∧ f j ≤ B) → 0 ≤ isum f i n ∧ isum f i n ≤ n * B
  | 0, _, _ => by simp [isum]
  | n + 1, i, h => by
    have h1 := h i (by omega) (by omega)
    have h2 := isum_in n (i + 1) (fun j a b => h j (by omega) (by omega))
    have e : ((n + 1 : Nat) : Int) * B = n * B + B := by rw [Int.natCast_add, Int.add_mul]; simp
    show 0 ≤ f i + isum f (i + 1) n ∧ f i + isum f (i + 1) n ≤ _
    rw [e]; omega
/-- a bit of a set -/
abbrev zbit (m b : Int) : Prop := m / 2 ^ b.toNat % 2 = 1
/-! what is laid, as the class holds it: who (bits), begins, ends -/
def lOK (S : jMem) : Prop := (0 ≤ S 18 4 ∧ S 18 4 < 256) ∧ (∀ i, 0 ≤ i → i < 24 → 0 ≤ S 20 i ∧ S 20 i ≤ 20) ∧ (∀ i, 0 ≤ i → i < 24 → 0 ≤ S 21 i ∧ S 21 i ≤ 20)
def pgap (bg en : Int → Int) (a b : Int) : Int :=
  if en (a * 3 + 0) ≤ bg (b * 3 + 0) then 0 else if en (b * 3 + 0) ≤ bg (a * 3 + 0) then 1 else if en (a * 3 + 1) ≤ bg (b * 3 + 1) then 2 else if en (b * 3 + 1) ≤ bg (a * 3 + 1) then 3 else if en (a * 3 + 2) ≤ bg (b * 3 + 2) then 4 else if en (b * 3 + 2) ≤ bg (a * 3 + 2) then 5 else -9
theorem pgap_in (bg en : Int → Int) (a b : Int) : -9 ≤ pgap bg en a b ∧ pgap bg en a b ≤ 5 := by
  unfold pgap
  repeat' split
  all_goals omega
def pcom (bg en : Int → Int) (a b x : Int) : Int := max 0 (min (en (a * 3 + x)) (en (b * 3 + x)) - max (bg (a * 3 + x)) (bg (b * 3 + x)))
noncomputable def povl (m : Int) (bg en : Int → Int) (a b : Int) : Int := bb (zbit m a ∧ zbit m b ∧ pgap bg en a b = -9)
noncomputable def povs (m : Int) (bg en : Int → Int) : Int := isum (fun a => isum (povl m bg en a) (a + 1) (8 - (a + 1)).toNat) 0 (8 - 0 : Int).toNat
noncomputable def pheld (m : Int) (bg en : Int → Int) (b o : Int) : Int := bb (zbit m o ∧ en (o * 3 + 2) = bg (b * 3 + 2)) * (pcom bg en b o 0 * pcom bg en b o 1)
noncomputable def pwsum (m : Int) (wt : Int → Int) : Int := isum (fun b => bb (zbit m b) * wt b) 0 (8 - 0 : Int).toNat
noncomputable def pmom (m : Int) (wt bg en : Int → Int) (x : Int) : Int := isum (fun b => bb (zbit m b) * (wt b * (bg (b * 3 + x) + en (b * 3 + x)))) 0 (8 - 0 : Int).toNat
theorem bb_mul_t {p : Prop} (h : p) (x : Int) : bb p * x = x := by rw [bb_t h, Int.one_mul]
theorem bb_mul_f {p : Prop} (h : ¬ p) (x : Int) : bb p * x = 0 := by rw [bb_f h, Int.zero_mul]
