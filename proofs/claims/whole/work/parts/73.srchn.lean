/-! phases, rows, looks -/
def past (S : jMem) (nx : Int → Int) (d : Int) : Prop := ∀ e, 0 ≤ e → e < d → cpg S nx e ∧ ctk S nx e
theorem cpg.rr {S : jMem} {nx : Int → Int} {d : Int} (h : cpg S nx d) (h16 : S 16 d = 0) (h15 : S 15 d ≠ 0) : rrS S nx d := by
  obtain ⟨⟨xt, g1⟩, g2, g3, g4, g5⟩ := h
  exact ⟨⟨_, xt, g1⟩, g2, g4, h15, h16⟩
theorem cpg.lr {S : jMem} {nx : Int → Int} {d : Int} (h : cpg S nx d) (h16 : S 16 d = 0) (h15 : S 15 d = 0) (h14 : S 14 d ≠ 0) : lrS S nx d := by
  obtain ⟨⟨xt, g1⟩, g2, g3, g4, g5⟩ := h
  exact ⟨⟨_, _, xt, g1⟩, g4, h14, h15, h16⟩
theorem cpg.te {S : jMem} {nx : Int → Int} {d : Int} (h : cpg S nx d) (h16 : S 16 d = 0) (h15 : S 15 d = 0) (h14 : S 14 d = 0) : trS S nx d := by
  obtain ⟨⟨xt, g1⟩, g2, g3, g4, g5⟩ := h
  unfold cprog at g1
  obtain ⟨p1, -, -, -, he⟩ := g1
  rw [h14, h15, h16, zcnt_0, Int.zero_mul, Int.zero_add, Int.zero_mul, Int.add_zero, Int.add_zero] at he
  exact ⟨by omega, he, h14, h15, h16⟩
theorem cfr.te {S : jMem} {nx : Int → Int} {d : Int} (h : cfr S nx d) : trS S nx d := by
  obtain ⟨a, b, c, e, f, g⟩ := h
  refine ⟨by omega, ?_, b, c, e⟩
  rw [g, a]; exact (wsum_0 _ _ _ _ _).symm
theorem bkC.mk {S : jMem} {nx : Int → Int} {zt yt xt w : Int} (hk : cOK S) (hs : cS S) (hd : 0 ≤ S 6 12 ∧ S 6 12 < S 1 4) (hp : past S nx (S 6 12)) (hz : czin S (S 6 12)) (hy : cyin S (S 6 12)) (hx : cexts S (S 6 12)) (hpr : cprog S (S 6 12) zt yt xt w) : bkC S := by
  have hn := hk.1
  have l0 := hk.2.1 0 (by omega) (by omega)
  have l1 := hk.2.1 1 (by omega) (by omega)
  have l2 := hk.2.1 2 (by omega) (by omega)
  refine ⟨fun e e1 e2 => ?_, ?_, ⟨hy.2, hz.2⟩, hx.1⟩
  · obtain ⟨⟨-, gz, gy, -, -⟩, gt⟩ := hp e e1 e2
    have hb := cord_in hk hs (d := e) (by omega)
    obtain ⟨-, i0, i1, i2⟩ := isWay.in hk (by omega) gt.1
    have a0 := gt.2
    have a1 := gy.2
    have a2 := gz.2
    have x0 := pext_in hk (b := S 7 e) (t := S 9 e) (a := 0) (by omega) (by omega)
    have x1 := pext_in hk (b := S 7 e) (t := S 9 e) (a := 1) (by omega) (by omega)
    have x2 := pext_in hk (b := S 7 e) (t := S 9 e) (a := 2) (by omega) (by omega)
    exact ⟨by omega, ⟨a0, a1, a2⟩, by omega⟩
  · have hb := cord_in hk hs hd
    unfold cprog at hpr
    obtain ⟨p1, ⟨w0, w1, w2⟩, -⟩ := hpr
    have q1 := ((w1.2 _ hy.1.1).mp hy.1.2).1
    have q2 := ((w2.2 _ hz.1.1).mp hz.1.2).1
    have x1 := pext_in hk (b := S 7 (S 6 12)) (t := S 9 (S 6 12)) (a := 1) (by omega) (by omega)
    have x2 := pext_in hk (b := S 7 (S 6 12)) (t := S 9 (S 6 12)) (a := 2) (by omega) (by omega)
    have y0 := hy.1.1
    have z0 := hz.1.1
    omega
theorem past.agr {S S' : jMem} {nx nx' : Int → Int} {d : Int} (h : past S nx d) (g : ∀ e, 0 ≤ e → e < d → agr S S' e) (hn : ∀ e, 0 ≤ e → e < d → nx' e = nx e) : past S' nx' d := fun e e1 e2 => ⟨(h e e1 e2).1.agr (fun e' a b => g e' a (by omega)) e1 (hn e e1 e2), (h e e1 e2).2.agr (g e e1 e2) (hn e e1 e2)⟩
/-- the row is ready -/
theorem row_done {S S2 : jMem} {nx : Int → Int} {d B : Int} (hd : 0 ≤ d) (hdif : dif d S S2) (hpr : cprog S2 d (S2 12 (d * 3 + 2)) (S2 12 (d * 3 + 1)) (-1) (nx d)) (hz : czin S2 d) (hy : cyin S2 d) (hx : cexts S2 d) (h16 : 0 < S2 16 d) (hB : bkI S2 d d B) : cpg (up2 S2 17 d (zandn (S2 16 d) B)) nx d ∧ dif d S (up2 S2 17 d (zandn (S2 16 d) B)) ∧ (up2 S2 17 d (zandn (S2 16 d) B)) 16 d ≠ 0 := by
  refine ⟨⟨⟨-1, hpr⟩, hz, hy, hx, ⟨?_, fun p hp => ?_⟩⟩, hdif.u1 (by decide), ?_⟩
  · rw [up2_eq]; exact zandn_nn _ _
  · rw [up2_eq, zbit_andn (by omega) hB.1.1, hB.done hp]
    show zbit (S2 16 d) p ∧ ¬ ¬ cfree S2 d p ↔ zbit (S2 16 d) p ∧ cfree S2 d p
    rw [Classical.not_not]
  · show S2 16 d ≠ 0; omega
/-! how far the looks go -/
section Lk
variable {S : jMem} {nx : Int → Int} {d : Int}
theorem look_way (hk : cOK S) (hs : cS S) (hd : 0 ≤ d ∧ d < S 1 4) (h : cpg S nx d) {p : Int} (hp : 0 ≤ p) (hpw : zbit (S 16 d) p) : isWay (S 1 4) (S 2) (S 3) (S 4) (S 7 d) (nx d + pcnt (zbit (S 16 d)) p) (S 9 d) p (S 12 (d * 3 + 1)) (S 12 (d * 3 + 2)) ∧ 0 ≤ nx d := by
  have hn := hk.1
  have hb := cord_in hk hs hd
  obtain ⟨⟨xt, g1⟩, g2, g3, -⟩ := h
  exact prog.way hk (by omega) g1 g2.1 g3.1 hp hpw
theorem way_lt6 {n : Int} {len sid tb wt : Int → Int} (hk : sOK n len sid tb wt) {b w t x y z : Int} (hb : 0 ≤ b ∧ b < 8) (h : isWay n len sid tb b w t x y z) : w < wsum n len sid tb b 6 := by
  have := wsum_mono hk hb (t := t + 1) (u := 6) (by have := h.1; omega) (by have := h.1; omega)
  have := h.2.1.2; omega
theorem look_no (hk : cOK S) (hs : cS S) (hd : 0 ≤ d ∧ d < S 1 4) (h : cpg S nx d) (hp : past S nx d) {p : Int} (hp0 : 0 ≤ p) (hpw : zbit (S 16 d) p) (hf : ¬ cfree S d p) : nx d + pcnt (zbit (S 16 d)) p ≠ wsum (S 1 4) (S 2) (S 3) (S 4) (S 7 d) 6 ∧ ¬ pgood (S 1 4) (S 2) (S 3) (S 4) (S 7) (fset nx d (nx d + pcnt (zbit (S 16 d)) p)) d := by
  have hn := hk.1
  have hb := cord_in hk hs hd
  have hw := (look_way hk hs hd h hp0 hpw).1
  refine ⟨by have := way_lt6 hk (by omega) hw; omega, fun hg => hf (fun e' a1 a2 => ?_)⟩
  have := hg e' a1 a2 _ _ _ _ _ _ _ _ (by rw [fset_e]; exact hw) (by rw [fset_n _ _ (by omega)]; exact (hp e' a1 a2).2.1)
  exact this
theorem look_yes (hk : cOK S) (hs : cS S) (hd : 0 ≤ d ∧ d < S 1 4) (h : cpg S nx d) (hp : past S nx d) {p : Int} (hp0 : 0 ≤ p) (hpw : zbit (S 16 d) p) (hf : cfree S d p) : nx d + pcnt (zbit (S 16 d)) p ≠ wsum (S 1 4) (S 2) (S 3) (S 4) (S 7 d) 6 ∧ pgood (S 1 4) (S 2) (S 3) (S 4) (S 7) (fset nx d (nx d + pcnt (zbit (S 16 d)) p)) d := by
  have hn := hk.1
  have hb := cord_in hk hs hd
  have hw := (look_way hk hs hd h hp0 hpw).1
  refine ⟨by have := way_lt6 hk (by omega) hw; omega, fun e' a1 a2 t x y z t' x' y' z' w1 w2 => ?_⟩
  rw [fset_e] at w1
  rw [fset_n _ _ (by omega)] at w2
  obtain ⟨rfl, rfl, rfl, rfl⟩ := isWay.uniq hk (by omega) hw w1
  have hb2 := cord_in hk hs (d := e') (by omega)
  obtain ⟨rfl, rfl, rfl, rfl⟩ := isWay.uniq hk (by omega) (hp e' a1 a2).2.1 w2
  exact hf e' a1 a2
/-- a prefix of the row that is not free -/
theorem look_itr (hk : cOK S) (hs : cS S) (hd : 0 ≤ d ∧ d < S 1 4) (h : cpg S nx d) (hp : past S nx d) {k : Nat} {w l : Int} (hl : (k : Int) ≤ l) (hkc : (k : Int) ≤ zcnt (S 16 d)) (hno : ∀ p, 0 ≤ p → zbit (S 16 d) p → pcnt (zbit (S 16 d)) p < k → ¬ cfree S d p) : itr (sstep (S 1 4) (S 2) (S 3) (S 4) (S 7)) k (0, d, w, l, nx) = (0, d, w + k, l - k, fset nx d (nx d + k)) := by
  refine itr_no k hl (fun i i1 i2 => ?_)
  obtain ⟨p, q1, q2, q3⟩ := isNth.ex2 (P := zbit (S 16 d)) (k := i) (v := 24) i1 (by unfold zcnt at hkc; omega)
  have := look_no hk hs hd h hp q1 q2 (hno p q1 q2 (by omega))
  rw [q3] at this
  exact this
end Lk
/-- a step along the row -/
def av (d : Int) (S S' : jMem) : Prop := keeps [6, 12, 13, 16, 17] S S' ∧ (∀ e, e ≠ d → S' 16 e = S 16 e ∧ S' 17 e = S 17 e) ∧ ∀ i, i ≠ d * 3 → S' 12 i = S 12 i ∧ S' 13 i = S 13 i
theorem av.agr {d e : Int} {S S' : jMem} (h : av d S S') (he : e ≠ d) : agr S S' e := by
  have a0 := h.2.2 (e * 3) (by omega)
  have a1 := h.2.2 (e * 3 + 1) (by omega)
  have a2 := h.2.2 (e * 3 + 2) (by omega)
  have b := h.2.1 e he
  exact ⟨⟨h.1 1 (by decide), h.1 2 (by decide), h.1 3 (by decide), h.1 4 (by decide), h.1 7 (by decide)⟩, ⟨by rw [h.1 9 (by decide)], by rw [h.1 14 (by decide)], by rw [h.1 15 (by decide)], b⟩, by rw [h.1 10 (by decide)]; exact ⟨rfl, rfl, rfl⟩, by rw [h.1 11 (by decide)]; exact ⟨rfl, rfl, rfl⟩, ⟨a0.1, a1.1, a2.1⟩, ⟨a0.2, a1.2, a2.2⟩⟩
theorem cfree.av {d p : Int} {S S' : jMem} (h : av d S S') : cfree S' d p ↔ cfree S d p := by
  have a1 := (h.2.2 (d * 3 + 1) (by omega)).1
  have a2 := (h.2.2 (d * 3 + 2) (by omega)).1
  have key : ∀ e', 0 ≤ e' → e' < d → (S' 12 (e' * 3) = S 12 (e' * 3) ∧ S' 12 (e' * 3 + 1) = S 12 (e' * 3 + 1) ∧ S' 12 (e' * 3 + 2) = S 12 (e' * 3 + 2)) := fun e' q1 q2 => ⟨(h.2.2 _ (by omega)).1, (h.2.2 _ (by omega)).1, (h.2.2 _ (by omega)).1⟩
  unfold cfree
  rw [h.1 3 (by decide), h.1 7 (by decide), h.1 9 (by decide), a1, a2]
  constructor
  · intro g e' q1 q2
    obtain ⟨k1, k2, k3⟩ := key e' q1 q2
    have := g e' q1 q2
    rw [k1, k2, k3] at this
    exact this
  · intro g e' q1 q2
    obtain ⟨k1, k2, k3⟩ := key e' q1 q2
    rw [k1, k2, k3]; exact g e' q1 q2
theorem cpg.av {S S' : jMem} {nx : Int → Int} {d k xt : Int} (h : cpg S nx d) (hv : av d S S') (hx : -1 ≤ xt) (hs : sx (S 11 (d * 3)) xt (S' 16 d)) (hc : zcnt (S 16 d) = k + zcnt (S' 16 d)) (hf : 0 ≤ S' 17 d ∧ ∀ p, 0 ≤ p → (zbit (S' 17 d) p ↔ zbit (S' 16 d) p ∧ cfree S d p)) : cpg S' (fset nx d (nx d + k)) d := by
  obtain ⟨⟨xt0, g1⟩, g2, g3, g4, g5⟩ := h
  have a1 := hv.2.2 (d * 3 + 1) (by omega)
  have a2 := hv.2.2 (d * 3 + 2) (by omega)
  refine ⟨⟨xt, ?_⟩, ?_, ?_, ?_, ⟨hf.1, fun p hp => by rw [hf.2 p hp, cfree.av hv]⟩⟩
  · unfold cprog at g1 ⊢
    obtain ⟨p1, p2, ⟨s2, s1, s0⟩, p4, he⟩ := g1
    rw [hv.1 1 (by decide), hv.1 2 (by decide), hv.1 3 (by decide), hv.1 4 (by decide), hv.1 7 (by decide), hv.1 9 (by decide), hv.1 11 (by decide), hv.1 14 (by decide), hv.1 15 (by decide), a1.1, a2.1, fset_e]
    exact ⟨p1, p2, ⟨s2, s1, hs⟩, by omega, by omega⟩
  · unfold czin at g2 ⊢; rw [hv.1 3 (by decide), hv.1 7 (by decide), hv.1 9 (by decide), hv.1 11 (by decide), a2.1, a2.2]; exact g2
  · unfold cyin at g3 ⊢; rw [hv.1 3 (by decide), hv.1 7 (by decide), hv.1 9 (by decide), hv.1 11 (by decide), a1.1, a1.2]; exact g3
  · unfold cexts at g4 ⊢; rw [hv.1 3 (by decide), hv.1 7 (by decide), hv.1 9 (by decide), hv.1 10 (by decide)]; exact g4
theorem sx.tr {c t l u m : Int} (h : sx c t l) (g : sx l u m) : sx c (max t u) m := ⟨g.1, fun p hp => by
  rw [g.2 p hp, h.2 p hp]
  constructor
  · rintro ⟨⟨q1, q2⟩, q3⟩; exact ⟨q1, by omega⟩
  · rintro ⟨q1, q2⟩; exact ⟨⟨q1, by omega⟩, by omega⟩⟩
/-- up to the first free one -/
theorem seen_sx {wy f : Int} (hw : 0 ≤ wy ∧ wy < 2 ^ 21) (hf : 0 ≤ f ∧ f < 21) : sx wy f (zandn wy (zand wy (2 * (1 * 2 ^ f.toNat) - 1))) ∧ zcnt (zand wy (2 * (1 * 2 ^ f.toNat) - 1)) = pcnt (zbit wy) (f + 1) ∧ zcnt wy = zcnt (zand wy (2 * (1 * 2 ^ f.toNat) - 1)) + zcnt (zandn wy (zand wy (2 * (1 * 2 ^ f.toNat) - 1))) := by
  rw [Int.one_mul]
  have hm := mask_in (L := f) hf.1 (by omega)
  have zb : ∀ p, 0 ≤ p → (zbit (zand wy (2 * 2 ^ f.toNat - 1)) p ↔ zbit wy p ∧ p ≤ f) := fun p hp => by rw [zbit_and hw.1 hm.1, mask_bit hf.1 hp]
  have h1 : sx wy f (zandn wy (zand wy (2 * 2 ^ f.toNat - 1))) := ⟨zandn_nn _ _, fun p hp => by
    rw [zbit_andn hw.1 (zand_nn _ _), zb p hp]
    constructor
    · rintro ⟨q1, q2⟩
      refine ⟨q1, ?_⟩
      rcases Int.lt_or_le f p with c | c
      · exact c
      · exact absurd ⟨q1, c⟩ q2
    · rintro ⟨q1, q2⟩
      exact ⟨q1, fun q => by omega⟩⟩
  have h2 := zcnt_part (s := wy) (b := zand wy (2 * 2 ^ f.toNat - 1)) hw.1 (zand_nn _ _) (fun j hj q => ((zb j hj).mp q).1)
  have h3 := sx.cnt (P := fun _ => True) (L := 0) h1 hw (by omega)
  exact ⟨h1, by omega, h2⟩
theorem zandn_self (x : Int) (hx : 0 ≤ x) : zandn x x = 0 := zbit_ext (zandn_nn _ _) (Int.le_refl 0) (fun j hj => by
  rw [zbit_andn hx hx]
  exact ⟨fun q => absurd q.1 q.2, fun q => absurd q (zbit_0 j)⟩)
/-- the whole row, none of it free -/
theorem look_all {S S' : jMem} {nx : Int → Int} {d w l : Int} (hk : cOK S) (hs : cS S) (hd : 0 ≤ d ∧ d < S 1 4) (h : cpg S nx d) (hp : past S nx d) (h17 : S 17 d = 0) (hl : zcnt (S 16 d) ≤ l) (hv : av d S S') (c16 : S' 16 d = 0) (c17 : S' 17 d = 0) : (cpg S' (fset nx d (nx d + zcnt (S 16 d))) d ∧ past S' (fset nx d (nx d + zcnt (S 16 d))) d) ∧ itr (sstep (S 1 4) (S 2) (S 3) (S 4) (S 7)) (zcnt (S 16 d)).toNat (0, d, w, l, nx) = (0, d, w + zcnt (S 16 d), l - zcnt (S 16 d), fset nx d (nx d + zcnt (S 16 d))) := by
  have hz := zcnt_nn (S 16 d)
  have ek : (((zcnt (S 16 d)).toNat : Nat) : Int) = zcnt (S 16 d) := by omega
  have hnf : ∀ p, 0 ≤ p → zbit (S 16 d) p → ¬ cfree S d p := fun p p1 p2 q => by
    have := (h.2.2.2.2.2 p p1).mpr ⟨p2, q⟩
    rw [h17] at this; exact zbit_0 p this
  refine ⟨⟨?_, hp.agr (fun e e1 e2 => hv.agr (by omega)) (fun e e1 e2 => fset_n _ _ (by omega))⟩, ?_⟩
  · obtain ⟨⟨xt, g1⟩, -⟩ := id h
    unfold cprog at g1
    refine h.av hv (xt := 30) (by omega) (by rw [c16]; exact sx.zero g1.2.1.1.1) (by rw [c16, zcnt_0]; omega) ⟨by rw [c17]; omega, fun p p1 => ?_⟩
    rw [c16, c17]
    exact ⟨fun q => absurd q (zbit_0 p), fun q => absurd q.1 (zbit_0 p)⟩
  · have := look_itr hk hs hd h hp (k := (zcnt (S 16 d)).toNat) (w := w) (l := l) (by omega) (by omega) (fun p p1 p2 _ => hnf p p1 p2)
    rw [ek] at this
    exact this
/-- the work ends within the blocked ones -/
theorem look_part {S S' : jMem} {nx : Int → Int} {d w l t : Int} (hk : cOK S) (hs : cS S) (hd : 0 ≤ d ∧ d < S 1 4) (h : cpg S nx d) (hp : past S nx d) (hl0 : 0 ≤ l) (ht : -1 ≤ t) (hsx : sx (S 16 d) t (S' 16 d)) (hc : zcnt (S 16 d) = l + zcnt (S' 16 d)) (hf : ∀ f, isLow (S 17 d) f → l < pcnt (zbit (S 16 d)) (f + 1)) (hv : av d S S') (c17 : S' 17 d = S 17 d) : (cpg S' (fset nx d (nx d + l)) d ∧ past S' (fset nx d (nx d + l)) d) ∧ itr (sstep (S 1 4) (S 2) (S 3) (S 4) (S 7)) l.toNat (0, d, w, l, nx) = (0, d, w + l, 0, fset nx d (nx d + l)) := by
  obtain ⟨⟨xt, g1⟩, -⟩ := id h
  unfold cprog at g1
  have s0 := g1.2.2.1.2.2
  have w0 := g1.2.1.1
  have gx := g1.2.2.2.1.2.2
  have b16 : 0 ≤ S 16 d ∧ S 16 d < 2 ^ 21 := ⟨s0.1, s0.lt w0.1⟩
  have f17 := h.2.2.2.2
  have hcn := sx.cnt (P := fun _ => True) (L := 0) hsx b16 ht
  have ek : ((l.toNat : Nat) : Int) = l := by omega
  have hzn := zcnt_nn (S' 16 d)
  -- those before the threshold are not free
  have hnf : ∀ p, 0 ≤ p → zbit (S 16 d) p → pcnt (zbit (S 16 d)) p < l → ¬ cfree S d p := fun p p1 p2 p3 q => by
    have hb := (f17.2 p p1).mpr ⟨p2, q⟩
    have h0 : 0 < S 17 d := by
      rcases Int.lt_or_le 0 (S 17 d) with c | c
      · exact c
      · have : S 17 d = 0 := by have := f17.1; omega
        rw [this] at hb; exact absurd hb (zbit_0 p)
    obtain ⟨f, hf1⟩ := isLow.ex h0
    have h1 := hf f hf1
    have h2 : f ≤ p := by
      rcases Int.lt_or_le p f with c | c
      · exact absurd hb (hf1.2.2 p p1 c)
      · exact c
    have hf2 := ((f17.2 f hf1.1).mp hf1.2.1).1
    have h3 := pcnt_s (zbit (S 16 d)) hf1.1
    rw [bb_t hf2] at h3
    have h4 := pcnt_mono (zbit (S 16 d)) h2
    omega
  refine ⟨⟨?_, hp.agr (fun e e1 e2 => hv.agr (by omega)) (fun e e1 e2 => fset_n _ _ (by omega))⟩, ?_⟩
  · refine h.av hv (xt := max xt t) (by omega) (s0.tr hsx) hc ⟨by rw [c17]; exact f17.1, fun p p1 => ?_⟩
    rw [c17, f17.2 p p1, hsx.2 p p1]
    constructor
    · rintro ⟨q1, q2⟩
      refine ⟨⟨q1, ?_⟩, q2⟩
      rcases Int.lt_or_le t p with c | c
      · exact c
      · have h5 := pcnt_s (zbit (S 16 d)) p1
        rw [bb_t q1] at h5
        have h6 := pcnt_mono (zbit (S 16 d)) (show p + 1 ≤ t + 1 by omega)
        exact absurd q2 (hnf p p1 q1 (by omega))
    · rintro ⟨⟨q1, -⟩, q2⟩; exact ⟨q1, q2⟩
  · have := look_itr hk hs hd h hp (k := l.toNat) (w := w) (l := l) (by omega) (by omega) (fun p p1 p2 p3 => hnf p p1 p2 (by omega))
    rw [ek, Int.sub_self] at this
    exact this
/-- up to a free one -/
theorem look_free {S S' : jMem} {nx : Int → Int} {d w l f : Int} (hk : cOK S) (hs : cS S) (hd : 0 ≤ d ∧ d < S 1 4) (h : cpg S nx d) (hp : past S nx d) (h17 : 0 < S 17 d) (hf : isLow (S 17 d) f) (hl : pcnt (zbit (S 16 d)) (f + 1) ≤ l) (hv : av d S S') (c16 : S' 16 d = zandn (S 16 d) (zand (S 16 d) (2 * (1 * 2 ^ f.toNat) - 1))) (c17 : S' 17 d = zandn (S 17 d) (1 * 2 ^ f.toNat)) (c12 : S' 12 (d * 3) = f) (c13 : S' 13 (d * 3) = f + S 10 (d * 3)) : (cpg S' (fset nx d (nx d + pcnt (zbit (S 16 d)) (f + 1))) d ∧ past S' (fset nx d (nx d + pcnt (zbit (S 16 d)) (f + 1))) d ∧ ctk S' (fset nx d (nx d + pcnt (zbit (S 16 d)) (f + 1))) d) ∧ (0 < pcnt (zbit (S 16 d)) (f + 1) ∧ itr (sstep (S 1 4) (S 2) (S 3) (S 4) (S 7)) (pcnt (zbit (S 16 d)) (f + 1)).toNat (0, d, w, l, nx) = if d + 1 < S 1 4 then (0, d + 1, w + pcnt (zbit (S 16 d)) (f + 1), l - pcnt (zbit (S 16 d)) (f + 1), fset (fset nx d (nx d + pcnt (zbit (S 16 d)) (f + 1))) (d + 1) 0) else (1, d + 1, w + pcnt (zbit (S 16 d)) (f + 1), l - pcnt (zbit (S 16 d)) (f + 1), fset nx d (nx d + pcnt (zbit (S 16 d)) (f + 1)))) := by
  obtain ⟨⟨xt, g1⟩, gz, gy, gx4, f17⟩ := id h
  unfold cprog at g1
  have s0 := g1.2.2.1.2.2
  have w0 := g1.2.1.1
  have gx := g1.2.2.2.1.2.2
  have b16 : 0 ≤ S 16 d ∧ S 16 d < 2 ^ 21 := ⟨s0.1, s0.lt w0.1⟩
  have hfw := (f17.2 f hf.1).mp hf.2.1
  have f21 : f < 21 := by
    rcases Int.lt_or_le f 21 with c | c
    · exact c
    · exact absurd hfw.1 (zbit_high (k := 21) b16.1 b16.2 c)
  obtain ⟨a1, a2, a3⟩ := seen_sx b16 ⟨hf.1, f21⟩
  have hs1 := pcnt_s (zbit (S 16 d)) hf.1
  rw [bb_t hfw.1] at hs1
  have hnn := pcnt_nn (zbit (S 16 d)) f
  generalize hc : pcnt (zbit (S 16 d)) (f + 1) = c at *
  have hway := (look_way hk hs hd h hf.1 hfw.1).1
  refine ⟨⟨?_, hp.agr (fun e e1 e2 => hv.agr (by omega)) (fun e e1 e2 => fset_n _ _ (by omega)), ?_⟩, by omega, ?_⟩
  · refine h.av hv (xt := max xt f) (by omega) (by rw [c16]; exact s0.tr a1) (by rw [c16]; omega) ⟨by rw [c17]; exact zandn_nn _ _, fun p p1 => ?_⟩
    rw [c16, c17, zbit_zandn f17.1 hf.1 p1, f17.2 p p1, a1.2 p p1]
    constructor
    · rintro ⟨⟨q1, q2⟩, q3⟩
      refine ⟨⟨q1, ?_⟩, q2⟩
      rcases Int.lt_or_le p f with e | e
      · exact absurd ((f17.2 p p1).mpr ⟨q1, q2⟩) (hf.2.2 p p1 e)
      · omega
    · rintro ⟨⟨q1, q2⟩, q3⟩; exact ⟨⟨q1, q3⟩, by omega⟩
  · have b1 := hv.2.2 (d * 3 + 1) (by omega)
    have b2 := hv.2.2 (d * 3 + 2) (by omega)
    unfold ctk
    rw [hv.1 1 (by decide), hv.1 2 (by decide), hv.1 3 (by decide), hv.1 4 (by decide), hv.1 7 (by decide), hv.1 9 (by decide), c12, b1.1, b2.1, c13, fset_e, show nx d + c - 1 = nx d + pcnt (zbit (S 16 d)) f by omega]
    exact ⟨hway, by rw [gx4.1]⟩
  · have ek : ((pcnt (zbit (S 16 d)) f).toNat : Int) = pcnt (zbit (S 16 d)) f := by omega
    have e1 : c.toNat = (pcnt (zbit (S 16 d)) f).toNat + 1 := by omega
    have hzc : pcnt (zbit (S 16 d)) f ≤ zcnt (S 16 d) := by
      have := zcnt_nn (zandn (S 16 d) (zand (S 16 d) (2 * (1 * 2 ^ f.toNat) - 1))); omega
    have hi := look_itr hk hs hd h hp (k := (pcnt (zbit (S 16 d)) f).toNat) (w := w) (l := l) (by omega) (by omega) (fun p p1 p2 p3 q => by
      rcases Int.lt_or_le p f with e | e
      · exact hf.2.2 p p1 e ((f17.2 p p1).mpr ⟨p2, q⟩)
      · have := pcnt_mono (zbit (S 16 d)) e; omega)
    obtain ⟨y1, y2⟩ := look_yes hk hs hd h hp hf.1 hfw.1 hfw.2
    rw [ek] at hi
    rw [e1, itr_succ, hi]
    by_cases hn : d + 1 < S 1 4
    · rw [if_pos hn, sstep_go (by rw [fset_e]; exact y1) (by omega) y2 hn, fset_e, fset_fset]
      rw [show nx d + pcnt (zbit (S 16 d)) f + 1 = nx d + c by omega, show w + pcnt (zbit (S 16 d)) f + 1 = w + c by omega, show l - pcnt (zbit (S 16 d)) f - 1 = l - c by omega]
    · rw [if_neg hn, sstep_full (by rw [fset_e]; exact y1) (by omega) y2 (by omega), fset_e, fset_fset]
      rw [show nx d + pcnt (zbit (S 16 d)) f + 1 = nx d + c by omega, show w + pcnt (zbit (S 16 d)) f + 1 = w + c by omega, show l - pcnt (zbit (S 16 d)) f - 1 = l - c by omega]
