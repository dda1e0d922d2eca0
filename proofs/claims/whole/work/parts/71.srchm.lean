/-! the class's search in its memory -/
theorem zcnt_0 : zcnt 0 = 0 := by unfold zcnt; exact pcnt_none (fun j _ _ => zbit_0 j)
def cprog (S : jMem) (e zt yt xt w : Int) : Prop := prog (S 1 4) (S 2) (S 3) (S 4) (S 7 e) (S 9 e) (S 11 (e * 3)) (S 11 (e * 3 + 1)) (S 11 (e * 3 + 2)) zt (S 14 e) yt (S 15 e) xt (S 16 e) w
def cexts (S : jMem) (e : Int) : Prop := S 10 (e * 3) = pext (S 3) (S 7 e) (S 9 e) 0 ∧ S 10 (e * 3 + 1) = pext (S 3) (S 7 e) (S 9 e) 1 ∧ S 10 (e * 3 + 2) = pext (S 3) (S 7 e) (S 9 e) 2
def cfree (S : jMem) (e p : Int) : Prop := ∀ e', 0 ≤ e' → e' < e → papart (S 3) (S 7 e) (S 9 e) p (S 12 (e * 3 + 1)) (S 12 (e * 3 + 2)) (S 7 e') (S 9 e') (S 12 (e' * 3)) (S 12 (e' * 3 + 1)) (S 12 (e' * 3 + 2))
def frs (S : jMem) (e : Int) : Prop := 0 ≤ S 17 e ∧ ∀ p, 0 ≤ p → (zbit (S 17 e) p ↔ zbit (S 16 e) p ∧ cfree S e p)
def czin (S : jMem) (e : Int) : Prop := (0 ≤ S 12 (e * 3 + 2) ∧ zbit (S 11 (e * 3 + 2)) (S 12 (e * 3 + 2))) ∧ S 13 (e * 3 + 2) = S 12 (e * 3 + 2) + pext (S 3) (S 7 e) (S 9 e) 2
def cyin (S : jMem) (e : Int) : Prop := (0 ≤ S 12 (e * 3 + 1) ∧ zbit (S 11 (e * 3 + 1)) (S 12 (e * 3 + 1))) ∧ S 13 (e * 3 + 1) = S 12 (e * 3 + 1) + pext (S 3) (S 7 e) (S 9 e) 1
def cpg (S : jMem) (nx : Int → Int) (e : Int) : Prop := (∃ xt, cprog S e (S 12 (e * 3 + 2)) (S 12 (e * 3 + 1)) xt (nx e)) ∧ czin S e ∧ cyin S e ∧ cexts S e ∧ frs S e
def ctk (S : jMem) (nx : Int → Int) (e : Int) : Prop := isWay (S 1 4) (S 2) (S 3) (S 4) (S 7 e) (nx e - 1) (S 9 e) (S 12 (e * 3)) (S 12 (e * 3 + 1)) (S 12 (e * 3 + 2)) ∧ S 13 (e * 3) = S 12 (e * 3) + pext (S 3) (S 7 e) (S 9 e) 0
def cfr (S : jMem) (nx : Int → Int) (e : Int) : Prop := S 9 e = -1 ∧ S 14 e = 0 ∧ S 15 e = 0 ∧ S 16 e = 0 ∧ S 17 e = 0 ∧ nx e = 0
def trS (S : jMem) (nx : Int → Int) (d : Int) : Prop := (-1 ≤ S 9 d ∧ S 9 d < 6) ∧ nx d = wsum (S 1 4) (S 2) (S 3) (S 4) (S 7 d) (S 9 d + 1) ∧ S 14 d = 0 ∧ S 15 d = 0 ∧ S 16 d = 0
def lrS (S : jMem) (nx : Int → Int) (d : Int) : Prop := (∃ zt yt xt, cprog S d zt yt xt (nx d)) ∧ cexts S d ∧ S 14 d ≠ 0 ∧ S 15 d = 0 ∧ S 16 d = 0
def rrS (S : jMem) (nx : Int → Int) (d : Int) : Prop := (∃ yt xt, cprog S d (S 12 (d * 3 + 2)) yt xt (nx d)) ∧ czin S d ∧ cexts S d ∧ S 15 d ≠ 0 ∧ S 16 d = 0
/-- a memory that differs at one depth -/
def dif (d : Int) (S S' : jMem) : Prop := keeps [9, 10, 11, 12, 13, 14, 15, 16, 17] S S' ∧ (∀ e, e ≠ d → S' 9 e = S 9 e ∧ S' 14 e = S 14 e ∧ S' 15 e = S 15 e ∧ S' 16 e = S 16 e ∧ S' 17 e = S 17 e) ∧ ∀ i, (i < d * 3 ∨ d * 3 + 3 ≤ i) → S' 10 i = S 10 i ∧ S' 11 i = S 11 i ∧ S' 12 i = S 12 i ∧ S' 13 i = S 13 i
theorem dif.rf {d : Int} {S : jMem} : dif d S S := ⟨keeps.rf, fun _ _ => ⟨rfl, rfl, rfl, rfl, rfl⟩, fun _ _ => ⟨rfl, rfl, rfl, rfl⟩⟩
theorem dif.tr {d : Int} {S S1 S2 : jMem} (h : dif d S S1) (g : dif d S1 S2) : dif d S S2 := by
  refine ⟨h.1.tr g.1, fun e he => ?_, fun i hi => ?_⟩
  · obtain ⟨a1, a2, a3, a4, a5⟩ := h.2.1 e he
    obtain ⟨b1, b2, b3, b4, b5⟩ := g.2.1 e he
    exact ⟨b1.trans a1, b2.trans a2, b3.trans a3, b4.trans a4, b5.trans a5⟩
  · obtain ⟨a1, a2, a3, a4⟩ := h.2.2 i hi
    obtain ⟨b1, b2, b3, b4⟩ := g.2.2 i hi
    exact ⟨b1.trans a1, b2.trans a2, b3.trans a3, b4.trans a4⟩
theorem up2_ne {S : jMem} {k q : Nat} {a i v : Int} (h : q ≠ k ∨ i ≠ a) : up2 S k a v q i = S q i := by
  rcases h with h | h
  · rw [up2_k _ _ _ h]
  · by_cases e : q = k
    · subst e; rw [up2_a _ _ _ h]
    · rw [up2_k _ _ _ e]
theorem dif.u1 {d v : Int} {S S' : jMem} (h : dif d S S') {q : Nat} (hq : q ∈ [9, 14, 15, 16, 17]) : dif d S (up2 S' q d v) := by
  have hn : q ≠ 10 ∧ q ≠ 11 ∧ q ≠ 12 ∧ q ≠ 13 := by
    simp only [List.mem_cons, List.not_mem_nil, or_false] at hq; omega
  refine ⟨h.1.up (by simp only [List.mem_cons, List.not_mem_nil, or_false] at hq ⊢; omega) _ _, fun e he => ?_, fun i hi => ?_⟩
  · rw [up2_ne (Or.inr he), up2_ne (Or.inr he), up2_ne (Or.inr he), up2_ne (Or.inr he), up2_ne (Or.inr he)]; exact h.2.1 e he
  · rw [up2_ne (Or.inl (Ne.symm hn.1)), up2_ne (Or.inl (Ne.symm hn.2.1)), up2_ne (Or.inl (Ne.symm hn.2.2.1)), up2_ne (Or.inl (Ne.symm hn.2.2.2))]; exact h.2.2 i hi
theorem dif.u3 {d v j : Int} {S S' : jMem} (h : dif d S S') {q : Nat} (hq : q ∈ [10, 11, 12, 13]) (ha : d * 3 ≤ j ∧ j < d * 3 + 3) : dif d S (up2 S' q j v) := by
  have hn : q ≠ 9 ∧ q ≠ 14 ∧ q ≠ 15 ∧ q ≠ 16 ∧ q ≠ 17 := by
    simp only [List.mem_cons, List.not_mem_nil, or_false] at hq; omega
  refine ⟨h.1.up (by simp only [List.mem_cons, List.not_mem_nil, or_false] at hq ⊢; omega) _ _, fun e he => ?_, fun i hi => ?_⟩
  · rw [up2_ne (Or.inl (Ne.symm hn.1)), up2_ne (Or.inl (Ne.symm hn.2.1)), up2_ne (Or.inl (Ne.symm hn.2.2.1)), up2_ne (Or.inl (Ne.symm hn.2.2.2.1)), up2_ne (Or.inl (Ne.symm hn.2.2.2.2))]; exact h.2.1 e he
  · rw [up2_ne (Or.inr (by omega)), up2_ne (Or.inr (by omega)), up2_ne (Or.inr (by omega)), up2_ne (Or.inr (by omega))]; exact h.2.2 i hi
/-- what another depth keeps -/
def agr (S S' : jMem) (e : Int) : Prop := (S' 1 = S 1 ∧ S' 2 = S 2 ∧ S' 3 = S 3 ∧ S' 4 = S 4 ∧ S' 7 = S 7) ∧ (S' 9 e = S 9 e ∧ S' 14 e = S 14 e ∧ S' 15 e = S 15 e ∧ S' 16 e = S 16 e ∧ S' 17 e = S 17 e) ∧ (S' 10 (e * 3) = S 10 (e * 3) ∧ S' 10 (e * 3 + 1) = S 10 (e * 3 + 1) ∧ S' 10 (e * 3 + 2) = S 10 (e * 3 + 2)) ∧ (S' 11 (e * 3) = S 11 (e * 3) ∧ S' 11 (e * 3 + 1) = S 11 (e * 3 + 1) ∧ S' 11 (e * 3 + 2) = S 11 (e * 3 + 2)) ∧ (S' 12 (e * 3) = S 12 (e * 3) ∧ S' 12 (e * 3 + 1) = S 12 (e * 3 + 1) ∧ S' 12 (e * 3 + 2) = S 12 (e * 3 + 2)) ∧ (S' 13 (e * 3) = S 13 (e * 3) ∧ S' 13 (e * 3 + 1) = S 13 (e * 3 + 1) ∧ S' 13 (e * 3 + 2) = S 13 (e * 3 + 2))
theorem dif.agr {d e : Int} {S S' : jMem} (h : dif d S S') (he : e ≠ d) : agr S S' e := by
  have a0 := h.2.2 (e * 3) (by omega)
  have a1 := h.2.2 (e * 3 + 1) (by omega)
  have a2 := h.2.2 (e * 3 + 2) (by omega)
  exact ⟨⟨h.1 1 (by decide), h.1 2 (by decide), h.1 3 (by decide), h.1 4 (by decide), h.1 7 (by decide)⟩, h.2.1 e he, ⟨a0.1, a1.1, a2.1⟩, ⟨a0.2.1, a1.2.1, a2.2.1⟩, ⟨a0.2.2.1, a1.2.2.1, a2.2.2.1⟩, ⟨a0.2.2.2, a1.2.2.2, a2.2.2.2⟩⟩
theorem cfree.agr {S S' : jMem} {e p : Int} (h : ∀ e', 0 ≤ e' → e' ≤ e → agr S S' e') (he : 0 ≤ e) : cfree S' e p ↔ cfree S e p := by
  obtain ⟨⟨b1, b2, b3, b4, b7⟩, ⟨c9, -⟩, -, -, ⟨x0, x1, x2⟩, -⟩ := h e he (Int.le_refl _)
  have key : ∀ e', 0 ≤ e' → e' < e → (S' 7 e' = S 7 e' ∧ S' 9 e' = S 9 e' ∧ S' 12 (e' * 3) = S 12 (e' * 3) ∧ S' 12 (e' * 3 + 1) = S 12 (e' * 3 + 1) ∧ S' 12 (e' * 3 + 2) = S 12 (e' * 3 + 2)) := fun e' a1 a2 => by
    obtain ⟨-, ⟨d9, -⟩, -, -, ⟨y0, y1, y2⟩, -⟩ := h e' a1 (by omega)
    exact ⟨by rw [b7], d9, y0, y1, y2⟩
  unfold cfree
  constructor
  · intro g e' a1 a2
    have := g e' a1 a2
    obtain ⟨k1, k2, k3, k4, k5⟩ := key e' a1 a2
    rw [b3, k1, k2, k3, k4, k5, c9, x1, x2, b7] at this
    exact this
  · intro g e' a1 a2
    obtain ⟨k1, k2, k3, k4, k5⟩ := key e' a1 a2
    rw [b3, k1, k2, k3, k4, k5, c9, x1, x2, b7]
    exact g e' a1 a2
theorem cpg.agr {S S' : jMem} {nx nx' : Int → Int} {e : Int} (g : cpg S nx e) (h : ∀ e', 0 ≤ e' → e' ≤ e → agr S S' e') (he : 0 ≤ e) (hn : nx' e = nx e) : cpg S' nx' e := by
  have hf := fun p => cfree.agr (p := p) h he
  obtain ⟨⟨b1, b2, b3, b4, b7⟩, ⟨c9, c14, c15, c16, c17⟩, ⟨x0, x1, x2⟩, ⟨y0, y1, y2⟩, ⟨z0, z1, z2⟩, ⟨w0, w1, w2⟩⟩ := h e he (Int.le_refl _)
  obtain ⟨⟨xt, g1⟩, g2, g3, g4, g5⟩ := g
  refine ⟨⟨xt, ?_⟩, ?_, ?_, ?_, ?_⟩
  · unfold cprog at g1 ⊢; rw [b1, b2, b3, b4, b7, c9, c14, c15, c16, y0, y1, y2, z1, z2, hn]; exact g1
  · unfold czin at g2 ⊢; rw [b3, b7, c9, y2, z2, w2]; exact g2
  · unfold cyin at g3 ⊢; rw [b3, b7, c9, y1, z1, w1]; exact g3
  · unfold cexts at g4 ⊢; rw [b3, b7, c9, x0, x1, x2]; exact g4
  · refine ⟨by rw [c17]; exact g5.1, fun p hp => ?_⟩
    rw [c17, c16, hf p]; exact g5.2 p hp
theorem ctk.agr {S S' : jMem} {nx nx' : Int → Int} {e : Int} (g : ctk S nx e) (h : agr S S' e) (hn : nx' e = nx e) : ctk S' nx' e := by
  obtain ⟨⟨b1, b2, b3, b4, b7⟩, ⟨c9, -⟩, -, -, ⟨z0, z1, z2⟩, ⟨w0, w1, w2⟩⟩ := h
  unfold ctk at g ⊢
  rw [b1, b2, b3, b4, b7, c9, z0, z1, z2, w0, hn]; exact g
theorem cOKd {S S' : jMem} {d : Int} (h : dif d S S') (hk : cOK S) : cOK S' := h.1.ok (by decide) hk
theorem cSd {S S' : jMem} {d : Int} (h : dif d S S') (hs : cS S) : cS S' := by
  unfold cS; rw [h.1 1 (by decide), h.1 2 (by decide), h.1 3 (by decide), h.1 4 (by decide), h.1 7 (by decide), h.1 8 (by decide)]; exact hs
theorem cord_in {S : jMem} (hk : cOK S) (hs : cS S) {d : Int} (hd : 0 ≤ d ∧ d < S 1 4) : 0 ≤ S 7 d ∧ S 7 d < S 1 4 := by
  have hn := hk.1
  have := isOrd.in _ hs.1 d hd.1 (by omega)
  omega
/-! from one phase to the next -/
theorem wsum_skip {n : Int} {len sid tb wt : Int → Int} (hk : sOK n len sid tb wt) {b t : Int} (hb : 0 ≤ b ∧ b < 8) (ht : 0 ≤ t) : ∀ k : Nat, (∀ u, t ≤ u → u < t + k → ¬ pcounts len sid tb b u) → wsum n len sid tb b (t + k) = wsum n len sid tb b t
  | 0, _ => by rw [show t + ((0 : Nat) : Int) = t by omega]
  | k + 1, h => by
    rw [show t + ((k + 1 : Nat) : Int) = t + (k : Int) + 1 by omega, wsum_s _ _ _ _ _ (by omega), (pways_c hk hb).2 (h (t + k) (by omega) (by omega)), wsum_skip hk hb ht k (fun u u1 u2 => h u u1 (by omega))]; omega
theorem wsum_sk {n : Int} {len sid tb wt : Int → Int} (hk : sOK n len sid tb wt) {b t u : Int} (hb : 0 ≤ b ∧ b < 8) (ht : 0 ≤ t ∧ t ≤ u) (h : ∀ v, t ≤ v → v < u → ¬ pcounts len sid tb b v) : wsum n len sid tb b u = wsum n len sid tb b t := by
  obtain ⟨k, hk2⟩ := Int.eq_ofNat_of_zero_le (show 0 ≤ u - t by omega)
  have e : u = t + k := by omega
  subst e
  exact wsum_skip hk hb ht.1 k h
def ttM (S : jMem) (b t v0 v1 v2 : Int) : jMem := up2 (up2 (up2 (up2 (up2 (up2 (up2 (up2 S 9 (S 6 12) t) 10 (S 6 12 * 3 + 0) (pext (S 3) b t 0)) 11 (S 6 12 * 3 + 0) v0) 10 (S 6 12 * 3 + 1) (pext (S 3) b t 1)) 11 (S 6 12 * 3 + 1) v1) 10 (S 6 12 * 3 + 2) (pext (S 3) b t 2)) 11 (S 6 12 * 3 + 2) v2) 14 (S 6 12) v2
theorem trS.turn {S : jMem} {nx : Int → Int} (hk : cOK S) (hs : cS S) (hd : 0 ≤ S 6 12 ∧ S 6 12 < S 1 4) (h : trS S nx (S 6 12)) {u v0 v1 v2 : Int} (hu : S 9 (S 6 12) < u ∧ u < 6) (hc : pcounts (S 2) (S 3) (S 4) (S 7 (S 6 12)) u) (hno : ∀ v, S 9 (S 6 12) < v → v < u → ¬ pcounts (S 2) (S 3) (S 4) (S 7 (S 6 12)) v) (w0 : wcA (S 1 4) (S 2) (S 3) (S 4) (S 7 (S 6 12)) u 0 v0) (w1 : wcA (S 1 4) (S 2) (S 3) (S 4) (S 7 (S 6 12)) u 1 v1) (w2 : wcA (S 1 4) (S 2) (S 3) (S 4) (S 7 (S 6 12)) u 2 v2) : lrS (ttM S (S 7 (S 6 12)) u v0 v1 v2) nx (S 6 12) ∧ dif (S 6 12) S (ttM S (S 7 (S 6 12)) u v0 v1 v2) := by
  have hn := hk.1
  have hb := cord_in hk hs hd
  generalize hdd : S 6 12 = d at *
  obtain ⟨h1, h2, h3, h4, h5⟩ := h
  have hdif : dif d S (ttM S (S 7 d) u v0 v1 v2) := by
    unfold ttM; rw [hdd]
    exact (((((((dif.rf.u1 (by decide)).u3 (by decide) (by omega)).u3 (by decide) (by omega)).u3 (by decide) (by omega)).u3 (by decide) (by omega)).u3 (by decide) (by omega)).u3 (by decide) (by omega)).u1 (by decide)
  have c9 : ttM S (S 7 d) u v0 v1 v2 9 d = u := by
    unfold ttM; rw [hdd]; rw [up2_ne (Or.inl (by decide)), up2_ne (Or.inl (by decide)), up2_ne (Or.inl (by decide)), up2_ne (Or.inl (by decide)), up2_ne (Or.inl (by decide)), up2_ne (Or.inl (by decide)), up2_ne (Or.inl (by decide)), up2_eq]
  have c14 : ttM S (S 7 d) u v0 v1 v2 14 d = v2 := by unfold ttM; rw [hdd, up2_eq]
  have c15 : ttM S (S 7 d) u v0 v1 v2 15 d = S 15 d := rfl
  have c16 : ttM S (S 7 d) u v0 v1 v2 16 d = S 16 d := rfl
  have x0 : ttM S (S 7 d) u v0 v1 v2 10 (d * 3) = pext (S 3) (S 7 d) u 0 := by
    unfold ttM; rw [hdd, Int.add_zero]; rw [up2_ne (Or.inl (by decide)), up2_ne (Or.inl (by decide)), up2_ne (Or.inr (by omega)), up2_ne (Or.inl (by decide)), up2_ne (Or.inr (by omega)), up2_ne (Or.inl (by decide)), up2_eq]
  have x1 : ttM S (S 7 d) u v0 v1 v2 10 (d * 3 + 1) = pext (S 3) (S 7 d) u 1 := by
    unfold ttM; rw [hdd]; rw [up2_ne (Or.inl (by decide)), up2_ne (Or.inl (by decide)), up2_ne (Or.inr (by omega)), up2_ne (Or.inl (by decide)), up2_eq]
  have x2 : ttM S (S 7 d) u v0 v1 v2 10 (d * 3 + 2) = pext (S 3) (S 7 d) u 2 := by
    unfold ttM; rw [hdd]; rw [up2_ne (Or.inl (by decide)), up2_ne (Or.inl (by decide)), up2_eq]
  have y0 : ttM S (S 7 d) u v0 v1 v2 11 (d * 3) = v0 := by
    unfold ttM; rw [hdd, Int.add_zero]; rw [up2_ne (Or.inl (by decide)), up2_ne (Or.inr (by omega)), up2_ne (Or.inl (by decide)), up2_ne (Or.inr (by omega)), up2_ne (Or.inl (by decide)), up2_eq]
  have y1 : ttM S (S 7 d) u v0 v1 v2 11 (d * 3 + 1) = v1 := by
    unfold ttM; rw [hdd]; rw [up2_ne (Or.inl (by decide)), up2_ne (Or.inr (by omega)), up2_ne (Or.inl (by decide)), up2_eq]
  have y2 : ttM S (S 7 d) u v0 v1 v2 11 (d * 3 + 2) = v2 := by
    unfold ttM; rw [hdd]; rw [up2_ne (Or.inl (by decide)), up2_eq]
  have sk := wsum_sk hk (b := S 7 d) (t := S 9 d + 1) (u := u) (by omega) (by omega) (fun v a1 a2 => hno v (by omega) a2)
  refine ⟨⟨⟨-1, 30, 30, ?_⟩, ?_, by rw [c14]; have := (w2.zero hc.2.1.2.2).2; omega, by rw [c15]; exact h4, by rw [c16]; exact h5⟩, hdif⟩
  · unfold cprog
    rw [hdif.1 1 (by decide), hdif.1 2 (by decide), hdif.1 3 (by decide), hdif.1 4 (by decide), hdif.1 7 (by decide), c9, c14, c15, c16, y0, y1, y2, h4, h5]
    refine ⟨⟨by omega, hc⟩, ⟨w0, w1, w2⟩, ⟨sx.full w2.1.1, sx.zero w1.1, sx.zero w0.1⟩, by omega, ?_⟩
    rw [w2.cnt hk (by omega) (by omega) hc.2.1.2.2, zcnt_0, h2, ← sk, wsum_s _ _ _ _ _ (by omega : 0 ≤ u), (pways_c hk (by omega)).1 hc, Int.add_zero, Int.add_zero]
    congr 1
    rw [Int.mul_comm (pmany _ _ _ _ _ _ 2), Int.mul_comm _ (pmany _ _ _ _ _ _ 0), Int.mul_assoc]
  · unfold cexts
    rw [hdif.1 3 (by decide), hdif.1 7 (by decide), c9, x0, x1, x2]; exact ⟨rfl, rfl, rfl⟩
theorem trS.none {S : jMem} {nx : Int → Int} (hk : cOK S) (hs : cS S) (hd : 0 ≤ S 6 12 ∧ S 6 12 < S 1 4) (h : trS S nx (S 6 12)) (hno : ∀ v, S 9 (S 6 12) < v → v < 6 → ¬ pcounts (S 2) (S 3) (S 4) (S 7 (S 6 12)) v) : nx (S 6 12) = wsum (S 1 4) (S 2) (S 3) (S 4) (S 7 (S 6 12)) 6 := by
  have hn := hk.1
  have hb := cord_in hk hs hd
  obtain ⟨h1, h2, -⟩ := h
  rw [h2]
  exact (wsum_sk hk (b := S 7 (S 6 12)) (t := S 9 (S 6 12) + 1) (u := 6) (by omega) (by omega) (fun v a1 a2 => hno v (by omega) a2)).symm
def saM (S : jMem) (a f : Int) : jMem := up2 (up2 S 12 (S 6 12 * 3 + a) f) 13 (S 6 12 * 3 + a) (f + S 10 (S 6 12 * 3 + a))
def nlM (S : jMem) (l : Int) : jMem := up2 (up2 (saM S 2 l) 14 (S 6 12) (zand (S 14 (S 6 12)) (S 14 (S 6 12) - 1))) 15 (S 6 12) (S 11 (S 6 12 * 3 + 1))
theorem lrS.next {S : jMem} {nx : Int → Int} {l : Int} (hk : cOK S) (hs : cS S) (hd : 0 ≤ S 6 12 ∧ S 6 12 < S 1 4) (h : lrS S nx (S 6 12)) (hl : isLow (S 14 (S 6 12)) l) : rrS (nlM S l) nx (S 6 12) ∧ dif (S 6 12) S (nlM S l) := by
  have hn := hk.1
  have hb := cord_in hk hs hd
  generalize hdd : S 6 12 = d at *
  obtain ⟨⟨zt, yt, xt, hp⟩, hx, h14, h15, h16⟩ := h
  have hdif : dif d S (nlM S l) := by
    unfold nlM saM; rw [hdd]
    exact (((dif.rf.u3 (by decide) (by omega)).u3 (by decide) (by omega)).u1 (by decide)).u1 (by decide)
  have c9 : nlM S l 9 d = S 9 d := rfl
  have c14 : nlM S l 14 d = zand (S 14 d) (S 14 d - 1) := by unfold nlM; rw [hdd, up2_ne (Or.inl (by decide)), up2_eq]
  have c15 : nlM S l 15 d = S 11 (d * 3 + 1) := by unfold nlM; rw [hdd, up2_eq]
  have c16 : nlM S l 16 d = S 16 d := rfl
  have c10 : nlM S l 10 = S 10 := rfl
  have c11 : nlM S l 11 = S 11 := rfl
  have z2 : nlM S l 12 (d * 3 + 2) = l := by unfold nlM saM; rw [hdd, up2_ne (Or.inl (by decide)), up2_ne (Or.inl (by decide)), up2_ne (Or.inl (by decide)), up2_eq]
  have e2 : nlM S l 13 (d * 3 + 2) = l + S 10 (d * 3 + 2) := by unfold nlM saM; rw [hdd, up2_ne (Or.inl (by decide)), up2_ne (Or.inl (by decide)), up2_eq]
  have hm := prog.m hk (by omega) hp
  unfold cprog at hp
  obtain ⟨p1, ⟨w0, w1, w2⟩, ⟨s2, s1, s0⟩, ⟨g2, g1, g0⟩, he⟩ := hp
  have l14 : 0 < S 14 d := by have := s2.1; omega
  obtain ⟨o1, o2, o3⟩ := s2.off l14 hl
  have zc := zcnt_off ⟨l14, s2.lt w2.1⟩ hl
  have q1 := (w1.zero p1.2.2.1.2.1)
  refine ⟨⟨⟨-1, 30, ?_⟩, ⟨⟨?_, ?_⟩, ?_⟩, ?_, by rw [c15]; omega, by rw [c16]; exact h16⟩, hdif⟩
  · unfold cprog
    rw [hdif.1 1 (by decide), hdif.1 2 (by decide), hdif.1 3 (by decide), hdif.1 4 (by decide), hdif.1 7 (by decide), c9, c14, c15, c16, c11, z2, h16]
    refine ⟨p1, ⟨w0, w1, w2⟩, ⟨o1, sx.full w1.1.1, sx.zero w0.1⟩, by have := hl.1; omega, ?_⟩
    rw [h15, h16, zcnt_0, zc] at he
    rw [zcnt_0, hm.2.1]
    have : (zcnt (zand (S 14 d) (S 14 d - 1)) + 1) * pmany (S 1 4) (S 2) (S 3) (S 4) (S 7 d) (S 9 d) 1 + 0 = zcnt (zand (S 14 d) (S 14 d - 1)) * pmany (S 1 4) (S 2) (S 3) (S 4) (S 7 d) (S 9 d) 1 + pmany (S 1 4) (S 2) (S 3) (S 4) (S 7 d) (S 9 d) 1 := by rw [Int.add_mul, Int.one_mul, Int.add_zero]
    rw [this] at he; exact he
  · rw [z2]; exact hl.1
  · rw [z2, c11]; exact o2
  · rw [e2, z2, hdif.1 3 (by decide), hdif.1 7 (by decide), c9, hx.2.2]
  · unfold cexts; rw [hdif.1 3 (by decide), hdif.1 7 (by decide), c9, c10]; exact hx
/-- the row is chosen -/
def nrM (S : jMem) (y : Int) : jMem := up2 (up2 (saM S 1 y) 15 (S 6 12) (zand (S 15 (S 6 12)) (S 15 (S 6 12) - 1))) 16 (S 6 12) (S 11 (S 6 12 * 3))
theorem rrS.row {S : jMem} {nx : Int → Int} {y : Int} (hk : cOK S) (hs : cS S) (hd : 0 ≤ S 6 12 ∧ S 6 12 < S 1 4) (h : rrS S nx (S 6 12)) (hl : isLow (S 15 (S 6 12)) y) : (cprog (nrM S y) (S 6 12) (nrM S y 12 (S 6 12 * 3 + 2)) (nrM S y 12 (S 6 12 * 3 + 1)) (-1) (nx (S 6 12)) ∧ czin (nrM S y) (S 6 12) ∧ cyin (nrM S y) (S 6 12) ∧ cexts (nrM S y) (S 6 12)) ∧ dif (S 6 12) S (nrM S y) ∧ nrM S y 16 (S 6 12) = S 11 (S 6 12 * 3) ∧ 0 < S 11 (S 6 12 * 3) := by
  have hn := hk.1
  have hb := cord_in hk hs hd
  generalize hdd : S 6 12 = d at *
  obtain ⟨⟨yt, xt, hp⟩, hz, hx, h15, h16⟩ := h
  have hdif : dif d S (nrM S y) := by
    unfold nrM saM; rw [hdd]
    exact (((dif.rf.u3 (by decide) (by omega)).u3 (by decide) (by omega)).u1 (by decide)).u1 (by decide)
  have c9 : nrM S y 9 d = S 9 d := rfl
  have c14 : nrM S y 14 d = S 14 d := rfl
  have c15 : nrM S y 15 d = zand (S 15 d) (S 15 d - 1) := by unfold nrM; rw [hdd, up2_ne (Or.inl (by decide)), up2_eq]
  have c16 : nrM S y 16 d = S 11 (d * 3) := by unfold nrM; rw [hdd, up2_eq]
  have c10 : nrM S y 10 = S 10 := rfl
  have c11 : nrM S y 11 = S 11 := rfl
  have z1 : nrM S y 12 (d * 3 + 1) = y := by unfold nrM saM; rw [hdd, up2_ne (Or.inl (by decide)), up2_ne (Or.inl (by decide)), up2_ne (Or.inl (by decide)), up2_eq]
  have e1 : nrM S y 13 (d * 3 + 1) = y + S 10 (d * 3 + 1) := by unfold nrM saM; rw [hdd, up2_ne (Or.inl (by decide)), up2_ne (Or.inl (by decide)), up2_eq]
  have z2 : nrM S y 12 (d * 3 + 2) = S 12 (d * 3 + 2) := by unfold nrM saM; rw [hdd, up2_ne (Or.inl (by decide)), up2_ne (Or.inl (by decide)), up2_ne (Or.inl (by decide)), up2_ne (Or.inr (by omega))]
  have e2 : nrM S y 13 (d * 3 + 2) = S 13 (d * 3 + 2) := by unfold nrM saM; rw [hdd, up2_ne (Or.inl (by decide)), up2_ne (Or.inl (by decide)), up2_ne (Or.inr (by omega)), up2_ne (Or.inl (by decide))]
  have hm := prog.m hk (by omega) hp
  unfold cprog at hp
  obtain ⟨p1, ⟨w0, w1, w2⟩, ⟨s2, s1, s0⟩, ⟨g2, g1, g0⟩, he⟩ := hp
  have l15 : 0 < S 15 d := by have := s1.1; omega
  obtain ⟨o1, o2, o3⟩ := s1.off l15 hl
  have zc := zcnt_off ⟨l15, s1.lt w1.1⟩ hl
  have q0 := (w0.zero p1.2.2.1.1)
  refine ⟨⟨?_, ⟨⟨?_, ?_⟩, ?_⟩, ⟨⟨?_, ?_⟩, ?_⟩, ?_⟩, hdif, c16, q0.2⟩
  · unfold cprog
    rw [hdif.1 1 (by decide), hdif.1 2 (by decide), hdif.1 3 (by decide), hdif.1 4 (by decide), hdif.1 7 (by decide), c9, c14, c15, c16, c11, z1, z2]
    refine ⟨p1, ⟨w0, w1, w2⟩, ⟨s2, o1, sx.full w0.1.1⟩, by have := hl.1; omega, ?_⟩
    rw [h16, zcnt_0, zc] at he
    rw [hm.1]
    have : (zcnt (S 14 d) * pmany (S 1 4) (S 2) (S 3) (S 4) (S 7 d) (S 9 d) 1 + (zcnt (zand (S 15 d) (S 15 d - 1)) + 1)) * pmany (S 1 4) (S 2) (S 3) (S 4) (S 7 d) (S 9 d) 0 = (zcnt (S 14 d) * pmany (S 1 4) (S 2) (S 3) (S 4) (S 7 d) (S 9 d) 1 + zcnt (zand (S 15 d) (S 15 d - 1))) * pmany (S 1 4) (S 2) (S 3) (S 4) (S 7 d) (S 9 d) 0 + pmany (S 1 4) (S 2) (S 3) (S 4) (S 7 d) (S 9 d) 0 := by rw [← Int.add_assoc, Int.add_mul _ 1, Int.one_mul]
    rw [this] at he; omega
  · rw [z2]; exact hz.1.1
  · rw [z2, c11]; exact hz.1.2
  · rw [e2, z2, hdif.1 3 (by decide), hdif.1 7 (by decide), c9]; exact hz.2
  · rw [z1]; exact hl.1
  · rw [z1, c11]; exact o2
  · rw [e1, z1, hdif.1 3 (by decide), hdif.1 7 (by decide), c9, hx.2.1]
  · unfold cexts; rw [hdif.1 3 (by decide), hdif.1 7 (by decide), c9, c10]; exact hx
/-- blocked by one of the boxes before -/
def bkI (S : jMem) (d e B : Int) : Prop := (0 ≤ B ∧ B < 2 ^ 21) ∧ ∀ p, 0 ≤ p → (zbit B p ↔ ∃ e', (0 ≤ e' ∧ e' < e) ∧ ¬ papart (S 3) (S 7 d) (S 9 d) p (S 12 (d * 3 + 1)) (S 12 (d * 3 + 2)) (S 7 e') (S 9 e') (S 12 (e' * 3)) (S 12 (e' * 3 + 1)) (S 12 (e' * 3 + 2)))
theorem bkI.skip {S : jMem} {d e B : Int} (h : bkI S d e B) (hp : ∀ p, papart (S 3) (S 7 d) (S 9 d) p (S 12 (d * 3 + 1)) (S 12 (d * 3 + 2)) (S 7 e) (S 9 e) (S 12 (e * 3)) (S 12 (e * 3 + 1)) (S 12 (e * 3 + 2))) : bkI S d (e + 1) B := by
  refine ⟨h.1, fun p hp0 => (h.2 p hp0).trans ⟨fun ⟨e', a, b⟩ => ⟨e', by omega, b⟩, fun ⟨e', a, b⟩ => ⟨e', ⟨a.1, ?_⟩, b⟩⟩⟩
  by_cases c : e' = e
  · subst c; exact absurd (hp p) b
  · omega
theorem bkI.on {S : jMem} {d e B f g : Int} (h : bkI S d e B) (he : 0 ≤ e) (hf : 0 ≤ f) (hfg : f ≤ g) (hg : g ≤ 20) (hp : ∀ p, 0 ≤ p → (¬ papart (S 3) (S 7 d) (S 9 d) p (S 12 (d * 3 + 1)) (S 12 (d * 3 + 2)) (S 7 e) (S 9 e) (S 12 (e * 3)) (S 12 (e * 3 + 1)) (S 12 (e * 3 + 2)) ↔ f ≤ p ∧ p < g)) : bkI S d (e + 1) (zor B (1 * 2 ^ g.toNat - 1 * 2 ^ f.toNat)) := by
  have r := rng_in hf hfg (by omega)
  refine ⟨⟨zor_nn _ _, zor_lt h.1.1 h.1.2 r.2.1⟩, fun p hp0 => ?_⟩
  rw [zbit_or h.1.1 r.1, zbit_rangeN (by omega) hp0, h.2 p hp0]
  constructor
  · rintro (⟨e', a, b⟩ | q)
    · exact ⟨e', by omega, b⟩
    · exact ⟨e, by omega, (hp p hp0).mpr (by omega)⟩
  · rintro ⟨e', a, b⟩
    by_cases c : e' = e
    · subst c; exact Or.inr (by have := (hp p hp0).mp b; omega)
    · exact Or.inl ⟨e', by omega, b⟩
theorem bkI.done {S : jMem} {d B : Int} (h : bkI S d d B) {p : Int} (hp : 0 ≤ p) : zbit B p ↔ ¬ cfree S d p := by
  rw [h.2 p hp]
  constructor
  · rintro ⟨e', a, b⟩ g
    exact b (g e' a.1 a.2)
  · intro g
    refine Classical.byContradiction (fun hno => g (fun e' a1 a2 => Classical.byContradiction (fun q => hno ⟨e', ⟨a1, a2⟩, q⟩)))
/-- the state of the class's search -/
def crel (S : jMem) (s : sst) : Prop := (S 6 15 = s.1 ∧ S 6 14 = s.2.2.1) ∧ (s.1 = 0 ∨ s.1 = 1 ∨ s.1 = 2) ∧ (s.1 = 0 → (0 ≤ s.2.1 ∧ s.2.1 < S 1 4) ∧ S 6 12 = s.2.1 ∧ (∀ e, 0 ≤ e → e < s.2.1 → cpg S s.2.2.2.2 e ∧ ctk S s.2.2.2.2 e) ∧ (cfr S s.2.2.2.2 s.2.1 ∨ cpg S s.2.2.2.2 s.2.1)) ∧ (s.1 = 1 → ∀ e, 0 ≤ e → e < S 1 4 → ctk S s.2.2.2.2 e)
