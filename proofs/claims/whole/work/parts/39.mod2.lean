/-! what is laid, as the model holds it -/
def men (S : jMem) (i : Int) : Int := S 6 i + pext (S 2) (i / 3) (S 5 (i / 3) - 1) (i % 3)
theorem men_at (S : jMem) {b x : Int} (hx : 0 ≤ x ∧ x < 3) : men S (b * 3 + x) = S 6 (b * 3 + x) + pext (S 2) b (S 5 b - 1) x := by
  unfold men
  rw [show (b * 3 + x) / 3 = b by omega, show (b * 3 + x) % 3 = x by omega]
def mlOK (S : jMem) : Prop := (∀ b, 0 ≤ b → b < 8 → 0 ≤ S 5 b ∧ S 5 b ≤ 6) ∧ (∀ i, 0 ≤ i → i < 24 → 0 ≤ S 6 i ∧ S 6 i ≤ 20) ∧ (∀ b, S 0 1 ≤ b → b < 8 → S 5 b = 0)
theorem men_in {S : jMem} (hk : mOK S) (hl : mlOK S) {b x : Int} (hb : 0 ≤ b ∧ b < 8) (hx : 0 ≤ x ∧ x < 3) : 0 ≤ men S (b * 3 + x) ∧ men S (b * 3 + x) ≤ 40 := by
  rw [men_at S hx]
  have h1 := hl.2.1 (b * 3 + x) (by omega) (by omega)
  have h2 := pext_in hk (b := b) (t := S 5 b - 1) (a := x) hb.1 hb.2
  omega
noncomputable def movl (S : jMem) (a b : Int) : Int := bb (0 < S 5 a ∧ 0 < S 5 b ∧ pgap (S 6) (men S) a b = -9)
noncomputable def movs (S : jMem) : Int := isum (fun a => isum (movl S a) 0 (a - 0).toNat) 0 (S 0 1 - 0).toNat
noncomputable def mheld (S : jMem) (b o : Int) : Int := bb (o ≠ b ∧ 0 < S 5 o ∧ men S (o * 3 + 2) = S 6 (b * 3 + 2)) * (pcom (S 6) (men S) o b 0 * pcom (S 6) (men S) o b 1)
noncomputable def mabove (S : jMem) (x : Int) : Int := isum (fun b => bb (0 < S 5 b) * (S 3 b * (S 6 (b * 3 + x) + men S (b * 3 + x)))) 0 (S 0 1 - 0).toNat
noncomputable def mbelow (S : jMem) : Int := isum (fun b => bb (0 < S 5 b) * (2 * S 3 b)) 0 (S 0 1 - 0).toNat
def zgcd (x y : Int) : Int := ((Nat.gcd x.toNat y.toNat : Nat) : Int)
theorem zgcd_step {x y : Int} (hx : 0 ≤ x) (hy : 0 < y) : zgcd y (x % y) = zgcd x y := by
  obtain ⟨a, rfl⟩ := Int.eq_ofNat_of_zero_le hx
  obtain ⟨b, rfl⟩ := Int.eq_ofNat_of_zero_le (Int.le_of_lt hy)
  unfold zgcd
  have e : ((a : Int) % (b : Int)).toNat = a % b := by rw [← Int.natCast_emod]; rfl
  rw [e, Int.toNat_natCast, Int.toNat_natCast, Nat.gcd_comm a b, Nat.gcd_rec b a, Nat.gcd_comm]
theorem zgcd_0 {x : Int} (hx : 0 ≤ x) : zgcd x 0 = x := by
  unfold zgcd
  rw [show (0 : Int).toNat = 0 from rfl, Nat.gcd_zero_right, Int.toNat_of_nonneg hx]
theorem zgcd_pos {x y : Int} (hy : 0 < y) : 0 < zgcd x y := by
  unfold zgcd
  have : 0 < Nat.gcd x.toNat y.toNat := Nat.gcd_pos_of_pos_right _ (by omega)
  exact_mod_cast this
theorem zgcd_le {x y : Int} (hy : 0 < y) : zgcd x y ≤ y := by
  unfold zgcd
  have : Nat.gcd x.toNat y.toNat ≤ y.toNat := Nat.gcd_le_right _ (by omega)
  omega
