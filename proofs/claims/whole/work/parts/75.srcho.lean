/-! the class's state after a look -/
theorem crel_stay {V : jMem} {nx : Int → Int} {d w l : Int} (h15 : V 6 15 = 0) (h12 : V 6 12 = d) (h14 : V 6 14 = w) (hd : 0 ≤ d ∧ d < V 1 4) (hc : cpg V nx d) (hp : past V nx d) : crel V (0, d, w, l, nx) := ⟨⟨h15, h14⟩, Or.inl rfl, fun _ => ⟨hd, h12, hp, Or.inr hc⟩, fun q => by dsimp only at q; omega⟩
theorem enM_agr {V : jMem} {d e : Int} (he : e ≠ d) : agr V (enM V d) e := by
  unfold agr enM
  refine ⟨⟨rfl, rfl, rfl, rfl, rfl⟩, ⟨?_, ?_, ?_, ?_, ?_⟩, ⟨rfl, rfl, rfl⟩, ⟨rfl, rfl, rfl⟩, ⟨rfl, rfl, rfl⟩, ⟨rfl, rfl, rfl⟩⟩
  all_goals rw [up2_ne (Or.inr he), up2_ne (Or.inr he), up2_ne (Or.inr he), up2_ne (Or.inr he), up2_ne (Or.inr he), up2_ne (Or.inl (by decide))]
theorem crel_go {V : jMem} {nx : Int → Int} {d w l : Int} (h15 : V 6 15 = 0) (h14 : V 6 14 = w) (hd : 0 ≤ d ∧ d + 1 < V 1 4) (hc : cpg V nx d) (hp : past V nx d) (ht : ctk V nx d) : crel (enM V (d + 1)) (0, d + 1, w, l, fset nx (d + 1) 0) := by
  have e15 : enM V (d + 1) 6 15 = V 6 15 := by unfold enM; rw [up2_ne (Or.inl (by decide)), up2_ne (Or.inl (by decide)), up2_ne (Or.inl (by decide)), up2_ne (Or.inl (by decide)), up2_ne (Or.inl (by decide)), up2_ne (Or.inr (by decide))]
  have e14 : enM V (d + 1) 6 14 = V 6 14 := by unfold enM; rw [up2_ne (Or.inl (by decide)), up2_ne (Or.inl (by decide)), up2_ne (Or.inl (by decide)), up2_ne (Or.inl (by decide)), up2_ne (Or.inl (by decide)), up2_ne (Or.inr (by decide))]
  have e12 : enM V (d + 1) 6 12 = d + 1 := by unfold enM; rw [up2_ne (Or.inl (by decide)), up2_ne (Or.inl (by decide)), up2_ne (Or.inl (by decide)), up2_ne (Or.inl (by decide)), up2_ne (Or.inl (by decide)), up2_eq]
  refine ⟨⟨e15.trans h15, e14.trans h14⟩, Or.inl rfl, fun _ => ⟨⟨by show 0 ≤ d + 1; omega, hd.2⟩, e12, fun e e1 e2 => ?_, Or.inl ⟨?_, ?_, ?_, ?_, ?_, ?_⟩⟩, fun q => by dsimp only at q; omega⟩
  · dsimp only at e2
    by_cases c : e = d
    · subst c
      exact ⟨hc.agr (fun e' a b => enM_agr (by omega)) e1 (fset_n _ _ (by omega)), ht.agr (enM_agr (by omega)) (fset_n _ _ (by omega))⟩
    · exact ⟨(hp e e1 (by omega)).1.agr (fun e' a b => enM_agr (by omega)) e1 (fset_n _ _ (by omega)), (hp e e1 (by omega)).2.agr (enM_agr (by omega)) (fset_n _ _ (by omega))⟩
  · unfold enM; rw [up2_ne (Or.inl (by decide)), up2_ne (Or.inl (by decide)), up2_ne (Or.inl (by decide)), up2_ne (Or.inl (by decide)), up2_eq]
  · unfold enM; rw [up2_ne (Or.inl (by decide)), up2_ne (Or.inl (by decide)), up2_ne (Or.inl (by decide)), up2_eq]
  · unfold enM; rw [up2_ne (Or.inl (by decide)), up2_ne (Or.inl (by decide)), up2_eq]
  · unfold enM; rw [up2_ne (Or.inl (by decide)), up2_eq]
  · unfold enM; rw [up2_eq]
  · exact fset_e _ _ _
theorem crel_full {V : jMem} {nx : Int → Int} {d w l : Int} (h14 : V 6 14 = w) (hd : 0 ≤ d ∧ d + 1 = V 1 4) (hp : past V nx d) (ht : ctk V nx d) : crel (up2 V 6 15 1) (1, d + 1, w, l, nx) := by
  refine ⟨⟨up2_eq _ _ _ _, by rw [up2_ne (Or.inr (by decide))]; exact h14⟩, Or.inr (Or.inl rfl), fun q => by dsimp only at q; omega, fun _ e e1 e2 => ?_⟩
  have e3 : e < V 1 4 := e2
  by_cases c : e = d
  · subst c; exact ht
  · exact (hp e e1 (by omega)).2
def lkP (S : jMem) (nx : Int → Int) (S' : jMem) : Prop := ∃ s' : sst, (∃ k, itr (sstep (S 1 4) (S 2) (S 3) (S 4) (S 7)) k (0, S 6 12, S 6 14, S 6 13, nx) = s') ∧ crel S' s' ∧ S' 6 13 = s'.2.2.2.1 ∧ (0 ≤ s'.2.2.2.1 ∧ s'.2.2.2.1 < S 6 13) ∧ s'.2.1 ≤ S 6 12 + 1 ∧ keeps [6, 9, 12, 13, 14, 15, 16, 17] S S'
theorem av.m4 {S : jMem} {d a b x y : Int} : av d S (up2 (up2 (up2 (up2 S 6 14 a) 6 13 b) 16 d x) 17 d y) := by
  refine ⟨(((keeps.rf.up (by decide) _ _).up (by decide) _ _).up (by decide) _ _).up (by decide) _ _, fun e he => ?_, fun i hi => ⟨rfl, rfl⟩⟩
  rw [up2_ne (Or.inr he), up2_ne (Or.inr he), up2_ne (Or.inl (by decide)), up2_ne (Or.inl (by decide)), up2_ne (Or.inr he), up2_ne (Or.inr he), up2_ne (Or.inl (by decide)), up2_ne (Or.inl (by decide))]
  exact ⟨rfl, rfl⟩
theorem av.sa {S V : jMem} {d f : Int} (h : av d S V) (h12 : V 6 12 = d) : av d S (saM V 0 f) := by
  unfold saM
  rw [h12, Int.add_zero]
  refine ⟨(h.1.up (by decide) _ _).up (by decide) _ _, fun e he => ?_, fun i hi => ?_⟩
  · rw [up2_ne (Or.inl (by decide)), up2_ne (Or.inl (by decide)), up2_ne (Or.inl (by decide)), up2_ne (Or.inl (by decide))]; exact h.2.1 e he
  · rw [up2_ne (Or.inl (by decide)), up2_ne (Or.inr hi), up2_ne (Or.inr hi), up2_ne (Or.inl (by decide))]; exact h.2.2 i hi
section Lp
variable {S : jMem} {nx : Int → Int}
theorem lkP.all (hk : cOK S) (hs : cS S) (hd : 0 ≤ S 6 12 ∧ S 6 12 < S 1 4) (h15 : S 6 15 = 0) (h : cpg S nx (S 6 12)) (hp : past S nx (S 6 12)) (h17 : S 17 (S 6 12) = 0) (h16 : 0 < zcnt (S 16 (S 6 12))) (hl : zcnt (S 16 (S 6 12)) ≤ S 6 13) : lkP S nx (up2 (up2 (up2 (up2 S 6 14 (S 6 14 + zcnt (S 16 (S 6 12)))) 6 13 (S 6 13 - zcnt (S 16 (S 6 12)))) 16 (S 6 12) (zandn (S 16 (S 6 12)) (S 16 (S 6 12)))) 17 (S 6 12) (zandn (S 17 (S 6 12)) 0)) := by
  have b16 : 0 ≤ S 16 (S 6 12) := by
    obtain ⟨⟨xt, g1⟩, -⟩ := h
    unfold cprog at g1
    exact g1.2.2.1.2.2.1
  generalize hV : up2 (up2 (up2 (up2 S 6 14 (S 6 14 + zcnt (S 16 (S 6 12)))) 6 13 (S 6 13 - zcnt (S 16 (S 6 12)))) 16 (S 6 12) (zandn (S 16 (S 6 12)) (S 16 (S 6 12)))) 17 (S 6 12) (zandn (S 17 (S 6 12)) 0) = V
  have hv : av (S 6 12) S V := by rw [← hV]; exact av.m4
  have c16 : V 16 (S 6 12) = 0 := by rw [← hV, up2_ne (Or.inl (by decide)), up2_eq, zandn_self _ b16]
  have c17 : V 17 (S 6 12) = 0 := by rw [← hV, up2_eq, h17, zandn_self _ (Int.le_refl 0)]
  have v14 : V 6 14 = S 6 14 + zcnt (S 16 (S 6 12)) := by rw [← hV, up2_ne (Or.inl (by decide)), up2_ne (Or.inl (by decide)), up2_ne (Or.inr (by decide)), up2_eq]
  have v13 : V 6 13 = S 6 13 - zcnt (S 16 (S 6 12)) := by rw [← hV, up2_ne (Or.inl (by decide)), up2_ne (Or.inl (by decide)), up2_eq]
  have v12 : V 6 12 = S 6 12 := by rw [← hV, up2_ne (Or.inl (by decide)), up2_ne (Or.inl (by decide)), up2_ne (Or.inr (by decide)), up2_ne (Or.inr (by decide))]
  have v15 : V 6 15 = 0 := by rw [← hV, up2_ne (Or.inl (by decide)), up2_ne (Or.inl (by decide)), up2_ne (Or.inr (by decide)), up2_ne (Or.inr (by decide)), h15]
  obtain ⟨⟨q1, q2⟩, q3⟩ := look_all hk hs hd h hp (w := S 6 14) h17 hl hv c16 c17
  exact ⟨_, ⟨_, q3⟩, crel_stay v15 v12 v14 (by rw [hv.1 1 (by decide)]; exact hd) q1 q2, v13, ⟨by show 0 ≤ S 6 13 - _; omega, by show S 6 13 - _ < S 6 13; omega⟩, by show S 6 12 ≤ _; omega, hv.1.wide (by decide)⟩
theorem lkP.part (hk : cOK S) (hs : cS S) (hd : 0 ≤ S 6 12 ∧ S 6 12 < S 1 4) (h15 : S 6 15 = 0) (h : cpg S nx (S 6 12)) (hp : past S nx (S 6 12)) (hl0 : 0 < S 6 13) (hf : ∀ f, isLow (S 17 (S 6 12)) f → S 6 13 < pcnt (zbit (S 16 (S 6 12))) (f + 1)) {Sk : jMem} (hL : lbI S (S 6 12) (S 6 13) Sk) : lkP S nx (up2 (up2 Sk 6 14 (S 6 14 + S 6 13)) 6 13 0) := by
  obtain ⟨k1, k2, t, k3, k4, k5⟩ := hL
  have hv : av (S 6 12) S (up2 (up2 Sk 6 14 (S 6 14 + S 6 13)) 6 13 0) := by
    refine ⟨((k1.keeps.wide (ks' := [6, 12, 13, 16, 17]) (by decide)).up (by decide) _ _).up (by decide) _ _, fun e he => ⟨k2 e he, ?_⟩, fun i hi => ⟨?_, ?_⟩⟩
    · show Sk 17 e = S 17 e; rw [k1 17 (by decide)]
    · show Sk 12 i = S 12 i; rw [k1 12 (by decide)]
    · show Sk 13 i = S 13 i; rw [k1 13 (by decide)]
  have v14 : up2 (up2 Sk 6 14 (S 6 14 + S 6 13)) 6 13 0 6 14 = S 6 14 + S 6 13 := by rw [up2_ne (Or.inr (by decide)), up2_eq]
  have v12 : up2 (up2 Sk 6 14 (S 6 14 + S 6 13)) 6 13 0 6 12 = S 6 12 := by rw [up2_ne (Or.inr (by decide)), up2_ne (Or.inr (by decide)), k1 6 (by decide)]
  have v15 : up2 (up2 Sk 6 14 (S 6 14 + S 6 13)) 6 13 0 6 15 = 0 := by rw [up2_ne (Or.inr (by decide)), up2_ne (Or.inr (by decide)), k1 6 (by decide), h15]
  obtain ⟨⟨q1, q2⟩, q3⟩ := look_part (S' := up2 (up2 Sk 6 14 (S 6 14 + S 6 13)) 6 13 0) hk hs hd h hp (w := S 6 14) (l := S 6 13) (t := t) (by omega) k3 k4 k5 hf hv (by show Sk 17 _ = _; rw [k1 17 (by decide)])
  exact ⟨_, ⟨_, q3⟩, crel_stay v15 v12 v14 (by rw [hv.1 1 (by decide)]; exact hd) q1 q2, up2_eq _ _ _ _, ⟨Int.le_refl 0, hl0⟩, by show S 6 12 ≤ _; omega, hv.1.wide (by decide)⟩
theorem lkP.free (hk : cOK S) (hs : cS S) (hd : 0 ≤ S 6 12 ∧ S 6 12 < S 1 4) (h15 : S 6 15 = 0) (h : cpg S nx (S 6 12)) (hp : past S nx (S 6 12)) (h17 : 0 < S 17 (S 6 12)) {f c : Int} (hf : isLow (S 17 (S 6 12)) f) (hc : c = pcnt (zbit (S 16 (S 6 12))) (f + 1)) (hl : c ≤ S 6 13) {S' : jMem} (hS : if S 6 12 + 1 < S 1 4 then S' = enM (saM (up2 (up2 (up2 (up2 S 6 14 (S 6 14 + c)) 6 13 (S 6 13 - c)) 16 (S 6 12) (zandn (S 16 (S 6 12)) (zand (S 16 (S 6 12)) (2 * (1 * 2 ^ f.toNat) - 1)))) 17 (S 6 12) (zandn (S 17 (S 6 12)) (1 * 2 ^ f.toNat))) 0 f) (S 6 12 + 1) else S' = up2 (saM (up2 (up2 (up2 (up2 S 6 14 (S 6 14 + c)) 6 13 (S 6 13 - c)) 16 (S 6 12) (zandn (S 16 (S 6 12)) (zand (S 16 (S 6 12)) (2 * (1 * 2 ^ f.toNat) - 1)))) 17 (S 6 12) (zandn (S 17 (S 6 12)) (1 * 2 ^ f.toNat))) 0 f) 6 15 1) : lkP S nx S' := by
  generalize hW : up2 (up2 (up2 (up2 S 6 14 (S 6 14 + c)) 6 13 (S 6 13 - c)) 16 (S 6 12) (zandn (S 16 (S 6 12)) (zand (S 16 (S 6 12)) (2 * (1 * 2 ^ f.toNat) - 1)))) 17 (S 6 12) (zandn (S 17 (S 6 12)) (1 * 2 ^ f.toNat)) = W at hS
  have hw : av (S 6 12) S W := by rw [← hW]; exact av.m4
  have w12 : W 6 12 = S 6 12 := by rw [← hW, up2_ne (Or.inl (by decide)), up2_ne (Or.inl (by decide)), up2_ne (Or.inr (by decide)), up2_ne (Or.inr (by decide))]
  have w14 : W 6 14 = S 6 14 + c := by rw [← hW, up2_ne (Or.inl (by decide)), up2_ne (Or.inl (by decide)), up2_ne (Or.inr (by decide)), up2_eq]
  have w13 : W 6 13 = S 6 13 - c := by rw [← hW, up2_ne (Or.inl (by decide)), up2_ne (Or.inl (by decide)), up2_eq]
  have w15 : W 6 15 = 0 := by rw [← hW, up2_ne (Or.inl (by decide)), up2_ne (Or.inl (by decide)), up2_ne (Or.inr (by decide)), up2_ne (Or.inr (by decide)), h15]
  have w16 : W 16 (S 6 12) = zandn (S 16 (S 6 12)) (zand (S 16 (S 6 12)) (2 * (1 * 2 ^ f.toNat) - 1)) := by rw [← hW, up2_ne (Or.inl (by decide)), up2_eq]
  have w17 : W 17 (S 6 12) = zandn (S 17 (S 6 12)) (1 * 2 ^ f.toNat) := by rw [← hW, up2_eq]
  have w10 : W 10 = S 10 := hw.1 10 (by decide)
  have hv : av (S 6 12) S (saM W 0 f) := hw.sa w12
  generalize hV : saM W 0 f = V at hS hv
  have v6 : V 6 = W 6 := by rw [← hV]; rfl
  have v16 : V 16 = W 16 := by rw [← hV]; rfl
  have v17 : V 17 = W 17 := by rw [← hV]; rfl
  have v12 : V 12 (S 6 12 * 3) = f := by rw [← hV]; unfold saM; rw [w12, Int.add_zero, up2_ne (Or.inl (by decide)), up2_eq]
  have v13 : V 13 (S 6 12 * 3) = f + S 10 (S 6 12 * 3) := by rw [← hV]; unfold saM; rw [w12, Int.add_zero, up2_eq, w10]
  subst hc
  obtain ⟨⟨q1, q2, q3⟩, q4, q5⟩ := look_free hk hs hd h hp (w := S 6 14) (l := S 6 13) h17 hf hl hv (by rw [v16]; exact w16) (by rw [v17]; exact w17) v12 v13
  by_cases hn : S 6 12 + 1 < S 1 4
  · rw [if_pos hn] at hS q5
    subst hS
    refine ⟨_, ⟨_, q5⟩, crel_go (by rw [v6]; exact w15) (by rw [v6]; exact w14) ⟨hd.1, by rw [hv.1 1 (by decide)]; exact hn⟩ q1 q2 q3, ?_, ⟨by show 0 ≤ S 6 13 - _; omega, by show S 6 13 - _ < S 6 13; omega⟩, by show S 6 12 + 1 ≤ _; omega, ?_⟩
    · show enM V (S 6 12 + 1) 6 13 = _
      unfold enM; rw [up2_ne (Or.inl (by decide)), up2_ne (Or.inl (by decide)), up2_ne (Or.inl (by decide)), up2_ne (Or.inl (by decide)), up2_ne (Or.inl (by decide)), up2_ne (Or.inr (by decide)), v6]; exact w13
    · have : keeps [6, 9, 12, 13, 14, 15, 16, 17] S V := hv.1.wide (by decide)
      exact ((((((this.up (by decide) _ _).up (by decide) _ _).up (by decide) _ _).up (by decide) _ _).up (by decide) _ _).up (by decide) _ _)
  · rw [if_neg hn] at hS q5
    subst hS
    refine ⟨_, ⟨_, q5⟩, crel_full (by rw [v6]; exact w14) ⟨hd.1, by rw [hv.1 1 (by decide)]; omega⟩ q2 q3, ?_, ⟨by show 0 ≤ S 6 13 - _; omega, by show S 6 13 - _ < S 6 13; omega⟩, by show S 6 12 + 1 ≤ _; omega, (hv.1.wide (by decide)).up (by decide) _ _⟩
    rw [up2_ne (Or.inr (by decide)), v6]; exact w13
end Lp
theorem isLow_pow {f : Int} (hf : 0 ≤ f) : isLow (1 * 2 ^ f.toNat) f := ⟨hf, (zbit_pow hf hf).mpr rfl, fun j j1 j2 q => by have := (zbit_pow hf j1).mp q; omega⟩
theorem isLow_n0 {f : Int} : ¬ isLow 0 f := fun h => zbit_0 f h.2.1
/-- along the steps -/
def goI (S0 : jMem) (s0 : sst) (st : Int) (S : jMem) : Prop := ∃ s : sst, crel S s ∧ S 6 13 = s.2.2.2.1 ∧ (0 ≤ s.2.2.2.1 ∧ s.2.2.2.1 ≤ 20000) ∧ keeps [6, 9, 10, 11, 12, 13, 14, 15, 16, 17] S0 S ∧ (∀ X, sEnd (sstep (S0 1 4) (S0 2) (S0 3) (S0 4) (S0 7)) s X → sEnd (sstep (S0 1 4) (S0 2) (S0 3) (S0 4) (S0 7)) s0 X) ∧ (0 ≤ st ∧ st ≤ 70000) ∧ (s.1 = 0 → st + bb (S 16 s.2.1 = 0) + s.2.1 ≤ 3 * (20000 - s.2.2.2.1) + 9)
section Go
variable {S0 S : jMem} {s0 : sst} {st : Int}
theorem goI.ok (h : goI S0 s0 st S) (hk : cOK S0) (hs : cS S0) : cOK S ∧ cS S := by
  obtain ⟨s, -, -, -, k, -⟩ := h
  refine ⟨k.ok (by decide) hk, ?_⟩
  unfold cS; rw [k 1 (by decide), k 2 (by decide), k 3 (by decide), k 4 (by decide), k 7 (by decide), k 8 (by decide)]; exact hs
theorem goI.bd (h : goI S0 s0 st S) : (0 ≤ st ∧ st ≤ 70000) ∧ (0 ≤ S 6 13 ∧ S 6 13 ≤ 20000) ∧ (S 6 15 = 0 ∨ S 6 15 = 1 ∨ S 6 15 = 2) := by
  obtain ⟨s, h1, h2, h3, -, -, h6, -⟩ := h
  refine ⟨h6, by rw [h2]; exact h3, ?_⟩
  rw [h1.1.1]; exact h1.2.1
theorem goI.pre (h : goI S0 s0 st S) (h15 : S 6 15 = 0) : (0 ≤ S 6 12 ∧ S 6 12 < S 1 4) ∧ ∃ nx, past S nx (S 6 12) ∧ (cfr S nx (S 6 12) ∨ cpg S nx (S 6 12)) := by
  obtain ⟨s, h1, -⟩ := h
  obtain ⟨a, b, c, d⟩ := h1.2.2.1 (h1.1.1.symm.trans h15)
  rw [b]
  exact ⟨a, s.2.2.2.2, c, d⟩
theorem goI.w (h : goI S0 s0 st S) (h15 : S 6 15 = 0) (hk : cOK S) : 0 ≤ S 16 (S 6 12) ∧ S 16 (S 6 12) < 2 ^ 21 := by
  obtain ⟨-, nx, -, c⟩ := h.pre h15
  rcases c with c | c
  · rw [c.2.2.2.1]; decide
  · obtain ⟨⟨xt, g1⟩, -⟩ := c
    unfold cprog at g1
    exact ⟨g1.2.2.1.2.2.1, g1.2.2.1.2.2.lt g1.2.1.1.1⟩
/-- the search's state, named -/
theorem goI.un (h : goI S0 s0 st S) (h15 : S 6 15 = 0) : ∃ nx, (past S nx (S 6 12) ∧ (cfr S nx (S 6 12) ∨ cpg S nx (S 6 12))) ∧ (∀ X, sEnd (sstep (S0 1 4) (S0 2) (S0 3) (S0 4) (S0 7)) (0, S 6 12, S 6 14, S 6 13, nx) X → sEnd (sstep (S0 1 4) (S0 2) (S0 3) (S0 4) (S0 7)) s0 X) ∧ keeps [6, 9, 10, 11, 12, 13, 14, 15, 16, 17] S0 S ∧ st + bb (S 16 (S 6 12) = 0) + S 6 12 ≤ 3 * (20000 - S 6 13) + 9 := by
  obtain ⟨⟨s1, s2, s3, s4, s5⟩, h1, h2, h3, h4, h5, h6, h7⟩ := h
  have e1 : s1 = 0 := h1.1.1.symm.trans h15
  subst e1
  obtain ⟨a, b, c, d⟩ := h1.2.2.1 rfl
  have e14 : S 6 14 = s3 := h1.1.2
  have e13 : S 6 13 = s4 := h2
  have h8 := h7 rfl
  dsimp only at a b c d h8
  rw [b, e14, e13]
  exact ⟨s5, ⟨c, d⟩, h5, h4, h8⟩
theorem goI.look {nx : Int → Int} {S' : jMem} (h : goI S0 s0 st S) (h15 : S 6 15 = 0) (h16 : S 16 (S 6 12) ≠ 0) (hr : ∀ X, sEnd (sstep (S0 1 4) (S0 2) (S0 3) (S0 4) (S0 7)) (0, S 6 12, S 6 14, S 6 13, nx) X → sEnd (sstep (S0 1 4) (S0 2) (S0 3) (S0 4) (S0 7)) s0 X) (hk : keeps [6, 9, 10, 11, 12, 13, 14, 15, 16, 17] S0 S) (hst : st + bb (S 16 (S 6 12) = 0) + S 6 12 ≤ 3 * (20000 - S 6 13) + 9) (hd : 0 ≤ S 6 12) (hL : lkP S nx S') : goI S0 s0 (st + 1) S' := by
  have hb := h.bd
  obtain ⟨s', ⟨k, l1⟩, l2, l3, l4, l5, l6⟩ := hL
  rw [bb_f h16] at hst
  refine ⟨s', l2, l3, by omega, hk.tr (l6.wide (by decide)), fun X hX => hr X (sEnd.itr k ?_), by omega, fun _ => ?_⟩
  · rw [hk 1 (by decide), hk 2 (by decide), hk 3 (by decide), hk 4 (by decide), hk 7 (by decide)] at l1
    rw [l1]; exact hX
  · have := bb_in (S' 16 s'.2.1 = 0); omega
theorem goI.row {nx : Int → Int} {S' : jMem} (h : goI S0 s0 st S) (h15 : S 6 15 = 0) (h16 : S 16 (S 6 12) = 0) (hr : ∀ X, sEnd (sstep (S0 1 4) (S0 2) (S0 3) (S0 4) (S0 7)) (0, S 6 12, S 6 14, S 6 13, nx) X → sEnd (sstep (S0 1 4) (S0 2) (S0 3) (S0 4) (S0 7)) s0 X) (hk : keeps [6, 9, 10, 11, 12, 13, 14, 15, 16, 17] S0 S) (hst : st + bb (S 16 (S 6 12) = 0) + S 6 12 ≤ 3 * (20000 - S 6 13) + 9) (hd : 0 ≤ S 6 12 ∧ S 6 12 < S 1 4) (hp : past S nx (S 6 12)) (hc : cpg S' nx (S 6 12)) (hf : dif (S 6 12) S S') (hn : S' 16 (S 6 12) ≠ 0) : goI S0 s0 (st + 1) S' := by
  have hb := h.bd
  have e6 : S' 6 = S 6 := hf.1 6 (by decide)
  rw [bb_t h16] at hst
  refine ⟨(0, S 6 12, S 6 14, S 6 13, nx), crel_stay (by rw [e6]; exact h15) (by rw [e6]) (by rw [e6]) (by rw [hf.1 1 (by decide)]; exact hd) hc (hp.agr (fun e e1 e2 => hf.agr (by omega)) (fun _ _ _ => rfl)), by rw [e6], by show 0 ≤ S 6 13 ∧ S 6 13 ≤ 20000; omega, hk.tr (hf.1.wide (by decide)), hr, by omega, fun _ => ?_⟩
  show st + 1 + bb (S' 16 (S 6 12) = 0) + S 6 12 ≤ 3 * (20000 - S 6 13) + 9
  rw [bb_f hn]; omega
theorem goI.back {nx : Int → Int} {S' : jMem} (h : goI S0 s0 st S) (h15 : S 6 15 = 0) (h16 : S 16 (S 6 12) = 0) (hr : ∀ X, sEnd (sstep (S0 1 4) (S0 2) (S0 3) (S0 4) (S0 7)) (0, S 6 12, S 6 14, S 6 13, nx) X → sEnd (sstep (S0 1 4) (S0 2) (S0 3) (S0 4) (S0 7)) s0 X) (hk : keeps [6, 9, 10, 11, 12, 13, 14, 15, 16, 17] S0 S) (hst : st + bb (S 16 (S 6 12) = 0) + S 6 12 ≤ 3 * (20000 - S 6 13) + 9) (hd : 0 ≤ S 6 12 ∧ S 6 12 < S 1 4) (hp : past S nx (S 6 12)) (hw : nx (S 6 12) = wsum (S 1 4) (S 2) (S 3) (S 4) (S 7 (S 6 12)) 6) (hS : if S 6 12 = 0 then S' = up2 S 6 15 2 else S' = up2 S 6 12 (S 6 12 - 1)) : goI S0 s0 (st + 1) S' := by
  have hb := h.bd
  rw [bb_t h16] at hst
  rw [hk 1 (by decide), hk 2 (by decide), hk 3 (by decide), hk 4 (by decide), hk 7 (by decide)] at hw
  have hstep := sstep_back (n := S0 1 4) (len := S0 2) (sid := S0 3) (tb := S0 4) (ord := S0 7) (nx := nx) (d := S 6 12) (w := S 6 14) (l := S 6 13) hw
  by_cases c : S 6 12 = 0
  · rw [if_pos c] at hS
    subst hS
    rw [if_pos (by omega)] at hstep
    refine ⟨(2, S 6 12 - 1, S 6 14, S 6 13, nx), ⟨⟨up2_eq _ _ _ _, by rw [up2_ne (Or.inr (by decide))]⟩, Or.inr (Or.inr rfl), fun q => by dsimp only at q; omega, fun q => by dsimp only at q; omega⟩, by rw [up2_ne (Or.inr (by decide))], by show 0 ≤ S 6 13 ∧ S 6 13 ≤ 20000; omega, hk.up (by decide) _ _, fun X hX => hr X (sEnd.step hstep hX), by omega, fun q => by dsimp only at q; omega⟩
  · rw [if_neg c] at hS
    subst hS
    rw [if_neg (by omega)] at hstep
    have e12 : up2 S 6 12 (S 6 12 - 1) 6 12 = S 6 12 - 1 := up2_eq _ _ _ _
    have hq := hp (S 6 12 - 1) (by omega) (by omega)
    refine ⟨(0, S 6 12 - 1, S 6 14, S 6 13, nx), crel_stay (by rw [up2_ne (Or.inr (by decide))]; exact h15) e12 (by rw [up2_ne (Or.inr (by decide))]) ⟨by omega, by show S 6 12 - 1 < S 1 4; omega⟩ hq.1 (fun e e1 e2 => hp e e1 (by omega)), by rw [up2_ne (Or.inr (by decide))], by show 0 ≤ S 6 13 ∧ S 6 13 ≤ 20000; omega, hk.up (by decide) _ _, fun X hX => hr X (sEnd.step hstep hX), by omega, fun _ => ?_⟩
    show st + 1 + bb _ + (S 6 12 - 1) ≤ _
    have := bb_in (up2 S 6 12 (S 6 12 - 1) 16 (S 6 12 - 1) = 0)
    show st + 1 + bb (up2 S 6 12 (S 6 12 - 1) 16 (S 6 12 - 1) = 0) + (S 6 12 - 1) ≤ 3 * (20000 - S 6 13) + 9
    omega
theorem goI.fin (h : goI S0 s0 st S) (h15 : S 6 15 ≠ 0) : ∃ s', sEnd (sstep (S0 1 4) (S0 2) (S0 3) (S0 4) (S0 7)) s0 s' ∧ crel S s' ∧ S 6 15 = s'.1 ∧ keeps [6, 9, 10, 11, 12, 13, 14, 15, 16, 17] S0 S := by
  obtain ⟨⟨s1, s2, s3, s4, s5⟩, h1, h2, h3, h4, h5, -⟩ := h
  have e1 : S 6 15 = s1 := h1.1.1
  exact ⟨_, h5 _ (sEnd.here (sstep_end (by omega))), h1, e1, h4⟩
theorem goI.out {nx : Int → Int} (h : goI S0 s0 st S) (hk0 : cOK S0) (hs0 : cS S0) (h15 : S 6 15 = 0) (h16 : S 16 (S 6 12) ≠ 0) (h13 : S 6 13 = 0) : ∃ s', sEnd (sstep (S0 1 4) (S0 2) (S0 3) (S0 4) (S0 7)) s0 s' ∧ crel S s' ∧ S 6 15 = s'.1 ∧ keeps [6, 9, 10, 11, 12, 13, 14, 15, 16, 17] S0 S := by
  obtain ⟨hk, hs⟩ := h.ok hk0 hs0
  have hw := h.w h15 hk
  obtain ⟨hd, -⟩ := h.pre h15
  obtain ⟨nx, ⟨hp, hc⟩, hr, hkk, -⟩ := h.un h15
  have hcp : cpg S nx (S 6 12) := hc.resolve_left (fun q => h16 q.2.2.2.1)
  obtain ⟨f, hf⟩ := isLow.ex (x := S 16 (S 6 12)) (by omega)
  have hn := hk.1
  have hb := cord_in hk hs hd
  have hwy := (look_way hk hs hd hcp hf.1 hf.2.1).1
  have hlt := way_lt6 hk (by omega) hwy
  have hpn := pcnt_nn (zbit (S 16 (S 6 12))) f
  refine ⟨(0, S 6 12, S 6 14, S 6 13, nx), hr _ (sEnd.here ?_), crel_stay h15 rfl rfl hd hcp hp, h15, hkk⟩
  rw [h13]
  refine sstep_out ?_
  rw [← hkk 1 (by decide), ← hkk 2 (by decide), ← hkk 3 (by decide), ← hkk 4 (by decide), ← hkk 7 (by decide)]
  omega
end Go
