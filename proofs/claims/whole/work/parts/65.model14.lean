def tinit (m : Int) : tst := (if m = 0 then [] else [m], 0, fun _ => 0)
def isMset (S : jMem) (m : Int) : Prop := (0 ≤ m ∧ m < 256) ∧ ∀ j, 0 ≤ j → (zbit m j ↔ j < S 0 1 ∧ 0 < S 5 j)
def plEnd (S0 : jMem) (m v : Int) (S : jMem) : Prop := ∃ X : tst, tEnd (S0 6) (men S0) (tinit m) X ∧ v = X.2.1 ∧ (0 ≤ v ∧ v ≤ 15) ∧ (∀ k, 0 ≤ k → k < v → S 14 k = X.2.2 (k * 4) ∧ S 15 k = X.2.2 (k * 4 + 1) ∧ S 16 k = X.2.2 (k * 4 + 2) ∧ S 17 k = X.2.2 (k * 4 + 3)) ∧ keeps [0, 14, 15, 16, 17, 18, 19, 20] S0 S ∧ ∀ j, j ≠ 21 → S 0 j = S0 0 j
def plK (S0 S : jMem) : Prop := keeps [0, 14, 15, 16, 17, 18, 19, 20] S0 S ∧ S 0 1 = S0 0 1
theorem plK.up {S0 S : jMem} (h : plK S0 S) {q : Nat} (hq : q ∈ [14, 15, 16, 17, 18, 19, 20]) (a v : Int) : plK S0 (up2 S q a v) := ⟨h.1.up (List.mem_cons_of_mem _ hq) _ _, by rw [up2_k _ _ _ (fun e => by subst e; exact absurd hq (by decide))]; exact h.2⟩
theorem plK.mn {S0 S : jMem} (h : plK S0 S) : men S = men S0 := by
  funext i; unfold men; rw [h.1 6 (by decide), h.1 2 (by decide), h.1 5 (by decide)]
theorem plK.ok {S0 S : jMem} (h : plK S0 S) (hk : mOK S0) : mOK S := h.1.mok (by decide) h.2 hk
theorem plK.lok {S0 S : jMem} (h : plK S0 S) (hl : mlOK S0) : mlOK S := by
  unfold mlOK; rw [h.1 5 (by decide), h.1 6 (by decide), h.2]; exact hl
theorem plK.lp {S0 S : jMem} (h : plK S0 S) (hq : mlP S0) : mlP S := by
  unfold mlP; rw [h.1 5 (by decide), h.1 6 (by decide), h.2, h.1 1 (by decide), h.1 2 (by decide), h.1 4 (by decide)]; exact hq
theorem plK.st {S0 S : jMem} (h : plK S0 S) {x : Int} (hs : stOK S0 x) : stOK S x := by
  unfold stOK; rw [h.1 5 (by decide), h.2]; exact hs
theorem plJ.k {S0 S : jMem} {s0 : tst} {tot h n x : Int} (H : plJ S0 s0 tot h n x S) : plK S0 S ∧ stOK S0 x ∧ S 0 21 = n + 1 := by
  obtain ⟨r, a, b, -, -⟩ := H
  exact ⟨⟨a.1.1, a.1.2 1 (by decide)⟩, b.2.2, b.1⟩
theorem plI.k {S0 S : jMem} {s0 : tst} {tot h : Int} (H : plI S0 s0 tot h S) : plK S0 S := by
  obtain ⟨r, a, -, -⟩ := H
  exact ⟨a.1.1, a.1.2 1 (by decide)⟩
theorem plJ.bd {S0 S : jMem} {s0 : tst} {tot h n x : Int} (H : plJ S0 s0 tot h n x S) : (0 ≤ h ∧ 0 ≤ n) ∧ n + h + 1 ≤ 15 := by
  obtain ⟨r, ⟨-, a, b, -⟩, ⟨-, e, f⟩, c, -⟩ := H
  have hh : h = ((h.toNat : Nat) : Int) := by omega
  have h1 := pw_lb (f := S 18) h.toNat (fun i i1 i2 => (b i i1 (by omega)).pos)
  rw [← hh] at h1
  have h2 := pw_s (S 18) a.1
  rw [e] at h2
  have := f.pos
  omega
theorem plI.fin {S0 S : jMem} {tot h m : Int} (H : plI S0 (tinit m) tot h S) (hh : h ≤ 0) : plEnd S0 m (S 0 21) S := by
  have hb := H.bd
  obtain ⟨r, ⟨⟨k1, k2⟩, a, b, c, d⟩, e, f⟩ := H
  have e0 : h = 0 := by omega
  subst e0
  refine ⟨_, f _ (tEnd.here rfl), rfl, by omega, fun k h1 h2 => ?_, k1, k2⟩
  obtain ⟨q1, q2, q3, q4⟩ := c k h1 h2
  refine ⟨q1, q2, ?_, ?_⟩
  · rcases q3 with q | ⟨i, i1, -⟩
    · exact q
    · omega
  · rcases q4 with q | ⟨i, i1, -⟩
    · exact q
    · omega
theorem plJ.end {S0 S S' : jMem} {tot h n x m : Int} (H : plJ S0 (tinit m) tot h n x S) (hz : zand x (x - 1) ≠ 0) (hc : nocut (S0 6) (men S0) x) (hk : keeps [0, 14, 15, 16, 17, 18, 19, 20] S0 S') (h0 : ∀ j, j ≠ 21 → S' 0 j = S0 0 j) : plEnd S0 m 0 S' := by
  obtain ⟨r, hr⟩ := H.fail hz hc
  exact ⟨_, hr, rfl, by omega, fun k h1 h2 => by omega, hk, h0⟩
theorem plJ.z {S0 S : jMem} {s0 : tst} {tot h n x : Int} (H : plJ S0 s0 tot h n x S) : ∀ j, j ≠ 21 → S 0 j = S0 0 j := by
  obtain ⟨r, a, -⟩ := H
  exact a.1.2
theorem lm_pl2 {E : jEnv} {G : jG} (hG : mG G) (C : jX E G cX6_planted 8 RX6 5 115) (S0 : jMem) (m tot h n x : Int) (hk : mOK S0) (hl : mlOK S0) (hq : mlP S0) (R : jR E G (some .int) (jPi (fun v S' => plEnd S0 m v S'))) : ∀ (mm : Nat) (S : jMem), mm = ((0 : Int)).toNat → plJ S0 (tinit m) tot h n x S → (∀ h' S', plI S0 (tinit m) tot h' S' → S' 0 21 = n + 1 → J E G 73 [(0, .ref (jad G 0)), (2, .int (iI h'))] [] S') → J E G 158 [(0, .ref (jad G 0)), (2, .int (iI (h))), (3, .int (iI (n))), (4, .int (iI (x)))] [] S := by
  intro mm
  induction mm using Nat.strongRecOn with | ind mm ih => ?_
  intro S hm hJ K
  obtain ⟨hK, hst, h21⟩ := hJ.k
  have hbd := hJ.bd
  have hx1 := hst.1
  obtain ⟨l, hlow⟩ := isLow.ex hx1.1
  have hl0 := hlow.1
  have hl8 := hlow.lt (k := 8) (by omega) (by show x < 256; omega)
  refine J_aload_n C 0 dX6_planted_158 rfl ?_
  refine g_X6_56 hG C dX6_planted_159 ?_
  refine J_iload_n C 2 dX6_planted_162 rfl ?_
  refine J_bipush C dX6_planted_163 (by decide) ?_
  refine mast hG C 16 20 (by decide) dX6_planted_165 (by omega) (by omega) ?_
  refine J_aload_n C 0 dX6_planted_166 rfl ?_
  refine g_X6_59 hG C dX6_planted_167 ?_
  refine J_iload_n C 2 dX6_planted_170 rfl ?_
  refine J_bipush C dX6_planted_171 (by decide) ?_
  refine mast hG C 17 20 (by decide) dX6_planted_173 (by omega) (by omega) ?_
  refine J_aload_n C 0 dX6_planted_174 rfl ?_
  refine g_X6_50 hG C dX6_planted_175 ?_
  refine J_iload_n C 2 dX6_planted_178 rfl ?_
  refine J_bipush C dX6_planted_179 (by decide) ?_
  refine mast hG C 14 20 (by decide) dX6_planted_181 (by omega) (by omega) ?_
  refine J_aload_n C 0 dX6_planted_182 rfl ?_
  refine g_X6_53 hG C dX6_planted_183 ?_
  refine J_iload_n C 2 dX6_planted_186 rfl ?_
  refine J_iload C 3 dX6_planted_187 rfl ?_
  refine J_callS (rest := [.int (iI (n)), .ref (jad G 15)]) C (m_firstOf hG (up2 (up2 (up2 S 16 (n) (-9)) 17 (n) (-9)) 14 (n) (-9)) (x) l (by omega) hlow) kc_X6_firstOf kl_X6_177 dX6_planted_189 rfl rfl (by decide) (Nat.le_of_ble_eq_true rfl) (J_ki (fun v1 S1 h1 => ?_))
  obtain ⟨rfl, rfl⟩ := h1
  refine mast hG C 15 20 (by decide) dX6_planted_192 (by omega) (by omega) ?_
  refine J_iload C 3 dX6_planted_193 rfl ?_
  refine J_iload C 3 dX6_planted_195 rfl ?_
  refine J_iconst C dX6_planted_197 ?_
  refine J_isub C dX6_planted_198 ?_
  refine J_iand C (zand (x) ((x) - (1))) dX6_planted_199 (iI_zand (by omega) (by omega) (by omega) (by omega)) ?_
  have hz1 := zand_nn x (x - 1)
  have hz2 := zand_le (a := x) (b := x - 1) (by omega)
  refine J_if_eq C 315 dX6_planted_200 (by decide) (by omega) (fun h2 => ?_) (fun h2 => ?_)
  · refine J_goto C 73 dX6_planted_315 (by decide) ?_
    refine J_lv [0, 1] rfl ?_
    exact K h _ (hJ.leaf hlow ((single_iff (by omega) hlow).mp (by assumption))) hJ.k.2.2
  · refine J_aload_n C 0 dX6_planted_203 rfl ?_
    refine J_iload C 3 dX6_planted_204 rfl ?_
    refine J_callV (k := 0) (rest := []) C (m_cutOf hG (up2 (up2 (up2 (up2 S 16 (n) (-9)) 17 (n) (-9)) 14 (n) (-9)) 15 (n) (l)) (x) (((((hK.up (by decide) _ _).up (by decide) _ _).up (by decide) _ _).up (by decide) _ _).ok hk) (((((hK.up (by decide) _ _).up (by decide) _ _).up (by decide) _ _).up (by decide) _ _).lok hl) (((((hK.up (by decide) _ _).up (by decide) _ _).up (by decide) _ _).up (by decide) _ _).lp hq) (((((hK.up (by decide) _ _).up (by decide) _ _).up (by decide) _ _).up (by decide) _ _).st hst)) kc_X6_cutOf kl_X6_180 (by rw [hG.2]; decide) (by rw [hG.1]; rfl) rfl dX6_planted_206 rfl rfl (by decide) (Nat.le_of_ble_eq_true rfl) (J_ki (fun v3 S3 h3 => ?_))
    obtain ⟨hcu, hSe⟩ := h3
    have hcut : (∃ a p, fcut (S0 6) (men S0) x a p ∧ v3 = 32 * a + p ∧ 1 ≤ p ∧ p < S0 1 a) ∨ (nocut (S0 6) (men S0) x ∧ v3 = -9) := by unfold cutA at hcu; rw [((((hK.up (by decide) _ _).up (by decide) _ _).up (by decide) _ _).up (by decide) _ _).mn, ((((hK.up (by decide) _ _).up (by decide) _ _).up (by decide) _ _).up (by decide) _ _).1 6 (by decide), ((((hK.up (by decide) _ _).up (by decide) _ _).up (by decide) _ _).up (by decide) _ _).1 1 (by decide)] at hcu; exact hcu
    clear hcu
    subst hSe
    have hvr : -9 ≤ v3 ∧ v3 < 120 := by
      rcases hcut with ⟨a, p, q1, q2, q3, q4⟩ | q
      · have := q1.1; have := hk.2.1 a (by omega) (by omega); omega
      · omega
    refine J_istore (lv' := [(6, .int (iI (v3))), (0, .ref (jad G 0)), (2, .int (iI (h))), (3, .int (iI (n))), (4, .int (iI (x)))]) C dX6_planted_209 (by decide) rfl ?_
    refine J_iload C 0 dX6_planted_211 rfl ?_
    refine J_bipush C dX6_planted_213 (by decide) ?_
    refine J_icmp_ne C 220 dX6_planted_215 (by decide) (by omega) (by omega) (fun h4 => ?_) (fun h4 => ?_)
    · obtain ⟨a, p, hfc, hve, hp1, hp2⟩ : ∃ a p, fcut (S0 6) (men S0) x a p ∧ v3 = 32 * a + p ∧ 1 ≤ p ∧ p < S0 1 a := hcut.elim id (fun q => absurd q.2 (by assumption))
      have ha3 := hfc.1
      have hla := hk.2.1 a (by omega) (by omega)
      refine J_aload_n C 1 dX6_planted_220 rfl ?_
      refine g_X6_50 hG C dX6_planted_221 ?_
      refine J_iload_n C 3 dX6_planted_224 rfl ?_
      refine J_iload C 0 dX6_planted_225 rfl ?_
      refine J_bipush C dX6_planted_227 (by decide) ?_
      refine J_idiv C dX6_planted_229 (by omega) (by omega) (by omega) (by omega) ?_
      refine J_top (b := a) (by omega) ?_
      refine mast hG C 14 20 (by decide) dX6_planted_230 (by omega) (by omega) ?_
      refine J_aload_n C 1 dX6_planted_231 rfl ?_
      refine g_X6_53 hG C dX6_planted_232 ?_
      refine J_iload_n C 3 dX6_planted_235 rfl ?_
      refine J_iload C 0 dX6_planted_236 rfl ?_
      refine J_bipush C dX6_planted_238 (by decide) ?_
      refine J_irem C dX6_planted_240 (by omega) (by omega) (by omega) (by omega) ?_
      refine J_top (b := p) (by omega) ?_
      refine mast hG C 15 20 (by decide) dX6_planted_241 (by omega) (by omega) ?_
      refine J_aload_n C 1 dX6_planted_242 rfl ?_
      refine J_iload C 4 dX6_planted_243 rfl ?_
      refine J_iload C 0 dX6_planted_245 rfl ?_
      refine J_bipush C dX6_planted_247 (by decide) ?_
      refine J_idiv C dX6_planted_249 (by omega) (by omega) (by omega) (by omega) ?_
      refine J_top (b := a) (by omega) ?_
      refine J_iload C 0 dX6_planted_250 rfl ?_
      refine J_bipush C dX6_planted_252 (by decide) ?_
      refine J_irem C dX6_planted_254 (by omega) (by omega) (by omega) (by omega) ?_
      refine J_top (b := p) (by omega) ?_
      refine J_callV (k := 0) (rest := []) C (m_before hG (up2 (up2 (up2 (up2 (up2 (up2 S 16 (n) (-9)) 17 (n) (-9)) 14 (n) (-9)) 15 (n) (l)) 14 (n) (a)) 15 (n) (p)) (x) (a) (p) (((((((hK.up (by decide) _ _).up (by decide) _ _).up (by decide) _ _).up (by decide) _ _).up (by decide) _ _).up (by decide) _ _).ok hk) (((((((hK.up (by decide) _ _).up (by decide) _ _).up (by decide) _ _).up (by decide) _ _).up (by decide) _ _).up (by decide) _ _).lok hl) (((((((hK.up (by decide) _ _).up (by decide) _ _).up (by decide) _ _).up (by decide) _ _).up (by decide) _ _).up (by decide) _ _).st hst) (by omega) (by omega)) kc_X6_before kl_X6_183 (by rw [hG.2]; decide) (by rw [hG.1]; rfl) rfl dX6_planted_255 rfl rfl (by decide) (Nat.le_of_ble_eq_true rfl) (J_ki (fun v5 S5 h5 => ?_))
      obtain ⟨hbf, hSe⟩ := h5
      have hbe : isBef (men S0) x a p v5 ∧ 0 < v5 ∧ v5 < 256 := by unfold befA at hbf; rw [((((((hK.up (by decide) _ _).up (by decide) _ _).up (by decide) _ _).up (by decide) _ _).up (by decide) _ _).up (by decide) _ _).mn, ((((((hK.up (by decide) _ _).up (by decide) _ _).up (by decide) _ _).up (by decide) _ _).up (by decide) _ _).up (by decide) _ _).1 6 (by decide)] at hbf; exact hbf.elim (fun q => ⟨q.2.2.2, q.2.1, q.2.2.1⟩) (fun q => absurd hfc.2.1 q.1)
      clear hbf
      subst hSe
      refine J_istore (lv' := [(7, .int (iI (v5))), (6, .int (iI (v3))), (0, .ref (jad G 0)), (2, .int (iI (h))), (3, .int (iI (n))), (4, .int (iI (x)))]) C dX6_planted_258 (by decide) rfl ?_
      refine J_aload_n C 2 dX6_planted_260 rfl ?_
      refine g_X6_62 hG C dX6_planted_261 ?_
      refine J_iload_n C 3 dX6_planted_264 rfl ?_
      refine J_iload C 5 dX6_planted_265 rfl ?_
      refine J_iload C 0 dX6_planted_267 rfl ?_
      refine J_iconst C dX6_planted_269 ?_
      refine J_ixor C (-(v5) - 1) dX6_planted_270 (iI_not _) ?_
      refine J_iand C (zandn (x) (v5)) dX6_planted_271 (iI_zandn (by omega) (by omega) (by omega) (by omega)) ?_
      refine mast hG C 18 20 (by decide) dX6_planted_272 (by omega) (by omega) ?_
      refine J_aload_n C 2 dX6_planted_273 rfl ?_
      refine g_X6_65 hG C dX6_planted_274 ?_
      refine J_iload_n C 3 dX6_planted_277 rfl ?_
      refine J_iload_n C 4 dX6_planted_278 rfl ?_
      refine mast hG C 19 20 (by decide) dX6_planted_279 (by omega) (by omega) ?_
      refine J_aload_n C 2 dX6_planted_280 rfl ?_
      refine g_X6_68 hG C dX6_planted_281 ?_
      refine J_iload_n C 3 dX6_planted_284 rfl ?_
      refine J_iinc (lv' := [(2, .int (iI (h + 1))), (7, .int (iI (v5))), (6, .int (iI (v3))), (0, .ref (jad G 0)), (3, .int (iI (n))), (4, .int (iI (x)))]) C 3 dX6_planted_285 rfl (by decide) rfl ?_
      refine J_iconst C dX6_planted_288 ?_
      refine mast hG C 20 20 (by decide) dX6_planted_289 (by omega) (by omega) ?_
      refine J_aload_n C 3 dX6_planted_290 rfl ?_
      refine g_X6_62 hG C dX6_planted_291 ?_
      refine J_iload_n C 0 dX6_planted_294 rfl ?_
      refine J_iload C 1 dX6_planted_295 rfl ?_
      refine mast hG C 18 20 (by decide) dX6_planted_297 (by omega) (by omega) ?_
      refine J_aload_n C 3 dX6_planted_298 rfl ?_
      refine g_X6_65 hG C dX6_planted_299 ?_
      refine J_iload_n C 0 dX6_planted_302 rfl ?_
      refine J_iload_n C 4 dX6_planted_303 rfl ?_
      refine mast hG C 19 20 (by decide) dX6_planted_304 (by omega) (by omega) ?_
      refine J_aload_n C 3 dX6_planted_305 rfl ?_
      refine g_X6_68 hG C dX6_planted_306 ?_
      refine J_iload_n C 0 dX6_planted_309 rfl ?_
      refine J_iinc (lv' := [(2, .int (iI (h + 1 + 1))), (7, .int (iI (v5))), (6, .int (iI (v3))), (0, .ref (jad G 0)), (3, .int (iI (n))), (4, .int (iI (x)))]) C 0 dX6_planted_310 rfl (by decide) rfl ?_
      refine J_iconst C dX6_planted_313 ?_
      refine mast hG C 20 20 (by decide) dX6_planted_314 (by omega) (by omega) ?_
      refine J_goto C 73 dX6_planted_315 (by decide) ?_
      refine J_lv [3, 0] rfl ?_
      rw [show h + 1 + 1 = h + 2 by omega]
      exact K (h + 2) _ (hJ.cut (l := l) (by assumption) hfc hbe.1) hJ.k.2.2
    · refine J_iconst C dX6_planted_218 ?_
      exact J_iret R C dX6_planted_219 (jPi.mk (hJ.end (by assumption) (hcut.elim (fun ⟨a, p, q1, q2, q3, q4⟩ => by have := q1.1; omega) And.left) ((((hK.up (by decide) _ _).up (by decide) _ _).up (by decide) _ _).up (by decide) _ _).1 hJ.z))
theorem plI.r19 {S0 S : jMem} {s0 : tst} {tot h : Int} (H : plI S0 s0 tot h S) (hh : 0 < h) : (-9 ≤ S 19 (h - 1) ∧ S 19 (h - 1) < 20) ∧ (S 19 (h - 1) = -9 ∨ (1 ≤ S 20 (h - 1) ∧ S 20 (h - 1) ≤ 2)) := by
  have hb := H.bd
  obtain ⟨-, h2⟩ := H.pop hh
  by_cases e : S 19 (h - 1) = -9
  · omega
  · have := (h2 e).1
    have := (h2 e).2.1
    omega
theorem lm_pl {E : jEnv} {G : jG} (hG : mG G) (C : jX E G cX6_planted 8 RX6 5 115) (S0 : jMem) (m tot : Int) (hk : mOK S0) (hl : mlOK S0) (hq : mlP S0) (R : jR E G (some .int) (jPi (fun v S' => plEnd S0 m v S'))) : ∀ (mm : Nat) (h : Int) (S : jMem), mm = (15 - S 0 21).toNat → plI S0 (tinit m) tot h S → J E G 73 [(0, .ref (jad G 0)), (2, .int (iI (h)))] [] S := by
  intro mm
  induction mm using Nat.strongRecOn with | ind mm ih => ?_
  intro h S hm hj
  have hbd := hj.bd
  refine J_iload_n C 1 dX6_planted_73 rfl ?_
  refine J_if_le C 318 dX6_planted_74 (by decide) (by omega) (fun h1 => ?_) (fun h1 => ?_)
  · refine J_aload_n C 0 dX6_planted_318 rfl ?_
    refine g_X6_174 hG C dX6_planted_319 ?_
    exact J_iret R C dX6_planted_322 (jPi.mk (hj.fin (by omega)))
  · refine J_iinc (lv' := [(2, .int (iI (h + (-1)))), (0, .ref (jad G 0))]) C 1 dX6_planted_77 rfl (by decide) rfl ?_
    rw [show h + (-1) = h - 1 from rfl]
    refine J_aload_n C 1 dX6_planted_80 rfl ?_
    refine J_dup C dX6_planted_81 rfl ?_
    refine g_X6_174 hG C dX6_planted_82 ?_
    refine J_dup_x1 C dX6_planted_85 rfl rfl ?_
    refine J_iconst C dX6_planted_86 ?_
    refine J_iadd C dX6_planted_87 ?_
    refine p_X6_174 hG C dX6_planted_88 ?_
    refine J_istore_n (lv' := [(3, .int (iI (S 0 21))), (2, .int (iI (h - 1))), (0, .ref (jad G 0))]) C dX6_planted_91 (by decide) rfl ?_
    refine J_aload_n C 2 dX6_planted_92 rfl ?_
    refine g_X6_62 hG C dX6_planted_93 ?_
    refine J_iload_n C 1 dX6_planted_96 rfl ?_
    refine mald hG C 18 20 (by decide) dX6_planted_97 (by omega) (by omega) ?_
    refine J_top (b := S 18 (h - 1)) (rd_k (by decide) (rfl)) ?_
    refine J_istore (lv' := [(4, .int (iI (S 18 (h - 1)))), (3, .int (iI (S 0 21))), (2, .int (iI (h - 1))), (0, .ref (jad G 0))]) C dX6_planted_98 (by decide) rfl ?_
    refine J_aload_n C 3 dX6_planted_100 rfl ?_
    refine g_X6_65 hG C dX6_planted_101 ?_
    refine J_iload_n C 2 dX6_planted_104 rfl ?_
    refine mald hG C 19 20 (by decide) dX6_planted_105 (by omega) (by omega) ?_
    refine J_top (b := S 19 (h - 1)) (rd_k (by decide) (rfl)) ?_
    refine J_istore (lv' := [(5, .int (iI (S 19 (h - 1)))), (4, .int (iI (S 18 (h - 1)))), (3, .int (iI (S 0 21))), (2, .int (iI (h - 1))), (0, .ref (jad G 0))]) C dX6_planted_106 (by decide) rfl ?_
    have hpp := hj.pop (by omega)
    have h9o : S 19 (h - 1) ≠ -9 → (0 ≤ S 19 (h - 1) ∧ S 19 (h - 1) < S 0 21) ∧ (S 20 (h - 1) = 1 ∨ S 20 (h - 1) = 2) := fun q => ⟨(hpp.2 q).1, (hpp.2 q).2.1⟩
    have h9r := hj.r19 (by omega)
    refine J_iload C 0 dX6_planted_108 rfl ?_
    refine J_bipush C dX6_planted_110 (by decide) ?_
    refine J_icmp_eq C 133 dX6_planted_112 (by decide) (by omega) (by omega) (fun h2 => ?_) (fun h2 => ?_)
    · refine J_iload C 0 dX6_planted_133 rfl ?_
      refine J_bipush C dX6_planted_135 (by decide) ?_
      refine J_icmp_eq C 158 dX6_planted_137 (by decide) (by omega) (by omega) (fun h3 => ?_) (fun h3 => ?_)
      · refine J_lv [4, 3, 2, 1] rfl ?_
        first | exact lm_pl2 hG C S0 m tot (h - 1) (S 0 21) (S 18 (h - 1)) hk hl hq R _ _ rfl ((hj.pop (by omega)).1 (by omega)) (fun h2 S2 a1 a2 => ih _ (by rw [a2]; omega) h2 S2 rfl a1) | (exfalso; omega)
      · refine J_aload_n C 4 dX6_planted_140 rfl ?_
        refine g_X6_68 hG C dX6_planted_141 ?_
        refine J_iload_n C 3 dX6_planted_144 rfl ?_
        refine mald hG C 20 20 (by decide) dX6_planted_145 (by omega) (by omega) ?_
        refine J_top (b := S 20 (h - 1)) (rd_k (by decide) (rfl)) ?_
        refine J_iconst C dX6_planted_146 ?_
        refine J_icmp_ne C 158 dX6_planted_147 (by decide) (by omega) (by omega) (fun h4 => ?_) (fun h4 => ?_)
        · refine J_lv [4, 3, 2, 1] rfl ?_
          first | exact lm_pl2 hG C S0 m tot (h - 1) (S 0 21) (S 18 (h - 1)) hk hl hq R _ _ rfl ((hj.pop (by omega)).1 (by omega)) (fun h2 S2 a1 a2 => ih _ (by rw [a2]; omega) h2 S2 rfl a1) | (exfalso; omega)
        · refine J_aload_n C 4 dX6_planted_150 rfl ?_
          refine g_X6_59 hG C dX6_planted_151 ?_
          refine J_iload C 0 dX6_planted_154 rfl ?_
          refine J_iload_n C 2 dX6_planted_156 rfl ?_
          refine mast hG C 17 20 (by decide) dX6_planted_157 (by omega) (by omega) ?_
          refine J_lv [4, 3, 2, 1] rfl ?_
          first | exact lm_pl2 hG C S0 m tot (h - 1) (S 0 21) (S 18 (h - 1)) hk hl hq R _ _ rfl (((hj.pop (by omega)).2 (by assumption)).2.2.2 (by omega)) (fun h2 S2 a1 a2 => ih _ (by rw [a2]; omega) h2 S2 rfl a1) | (exfalso; omega)
    · refine J_aload_n C 4 dX6_planted_115 rfl ?_
      refine g_X6_68 hG C dX6_planted_116 ?_
      refine J_iload_n C 3 dX6_planted_119 rfl ?_
      refine mald hG C 20 20 (by decide) dX6_planted_120 (by omega) (by omega) ?_
      refine J_top (b := S 20 (h - 1)) (rd_k (by decide) (rfl)) ?_
      refine J_iconst C dX6_planted_121 ?_
      refine J_icmp_ne C 133 dX6_planted_122 (by decide) (by omega) (by omega) (fun h5 => ?_) (fun h5 => ?_)
      · refine J_iload C 0 dX6_planted_133 rfl ?_
        refine J_bipush C dX6_planted_135 (by decide) ?_
        refine J_icmp_eq C 158 dX6_planted_137 (by decide) (by omega) (by omega) (fun h6 => ?_) (fun h6 => ?_)
        · refine J_lv [4, 3, 2, 1] rfl ?_
          first | exact lm_pl2 hG C S0 m tot (h - 1) (S 0 21) (S 18 (h - 1)) hk hl hq R _ _ rfl ((hj.pop (by omega)).1 (by omega)) (fun h2 S2 a1 a2 => ih _ (by rw [a2]; omega) h2 S2 rfl a1) | (exfalso; omega)
        · refine J_aload_n C 4 dX6_planted_140 rfl ?_
          refine g_X6_68 hG C dX6_planted_141 ?_
          refine J_iload_n C 3 dX6_planted_144 rfl ?_
          refine mald hG C 20 20 (by decide) dX6_planted_145 (by omega) (by omega) ?_
          refine J_top (b := S 20 (h - 1)) (rd_k (by decide) (rfl)) ?_
          refine J_iconst C dX6_planted_146 ?_
          refine J_icmp_ne C 158 dX6_planted_147 (by decide) (by omega) (by omega) (fun h7 => ?_) (fun h7 => ?_)
          · refine J_lv [4, 3, 2, 1] rfl ?_
            first | exact lm_pl2 hG C S0 m tot (h - 1) (S 0 21) (S 18 (h - 1)) hk hl hq R _ _ rfl ((hj.pop (by omega)).1 (by omega)) (fun h2 S2 a1 a2 => ih _ (by rw [a2]; omega) h2 S2 rfl a1) | (exfalso; omega)
          · refine J_aload_n C 4 dX6_planted_150 rfl ?_
            refine g_X6_59 hG C dX6_planted_151 ?_
            refine J_iload C 0 dX6_planted_154 rfl ?_
            refine J_iload_n C 2 dX6_planted_156 rfl ?_
            refine mast hG C 17 20 (by decide) dX6_planted_157 (by omega) (by omega) ?_
            refine J_lv [4, 3, 2, 1] rfl ?_
            first | exact lm_pl2 hG C S0 m tot (h - 1) (S 0 21) (S 18 (h - 1)) hk hl hq R _ _ rfl (((hj.pop (by omega)).2 (by assumption)).2.2.2 (by omega)) (fun h2 S2 a1 a2 => ih _ (by rw [a2]; omega) h2 S2 rfl a1) | (exfalso; omega)
      · refine J_aload_n C 4 dX6_planted_125 rfl ?_
        refine g_X6_56 hG C dX6_planted_126 ?_
        refine J_iload C 0 dX6_planted_129 rfl ?_
        refine J_iload_n C 2 dX6_planted_131 rfl ?_
        refine mast hG C 16 20 (by decide) dX6_planted_132 (by omega) (by omega) ?_
        refine J_iload C 0 dX6_planted_133 rfl ?_
        refine J_bipush C dX6_planted_135 (by decide) ?_
        refine J_icmp_eq C 158 dX6_planted_137 (by decide) (by omega) (by omega) (fun h8 => ?_) (fun h8 => ?_)
        · refine J_lv [4, 3, 2, 1] rfl ?_
          first | exact lm_pl2 hG C S0 m tot (h - 1) (S 0 21) (S 18 (h - 1)) hk hl hq R _ _ rfl (((hj.pop (by omega)).2 (by assumption)).2.2.1 (by omega)) (fun h2 S2 a1 a2 => ih _ (by rw [a2]; omega) h2 S2 rfl a1) | (exfalso; omega)
        · refine J_aload_n C 4 dX6_planted_140 rfl ?_
          refine g_X6_68 hG C dX6_planted_141 ?_
          refine J_iload_n C 3 dX6_planted_144 rfl ?_
          refine mald hG C 20 20 (by decide) dX6_planted_145 (by omega) (by omega) ?_
          refine J_top (b := S 20 (h - 1)) (rd_k (by decide) (rd_k (by decide) (rfl))) ?_
          refine J_iconst C dX6_planted_146 ?_
          refine J_icmp_ne C 158 dX6_planted_147 (by decide) (by omega) (by omega) (fun h9 => ?_) (fun h9 => ?_)
          · refine J_lv [4, 3, 2, 1] rfl ?_
            first | exact lm_pl2 hG C S0 m tot (h - 1) (S 0 21) (S 18 (h - 1)) hk hl hq R _ _ rfl (((hj.pop (by omega)).2 (by assumption)).2.2.1 (by omega)) (fun h2 S2 a1 a2 => ih _ (by rw [a2]; omega) h2 S2 rfl a1) | (exfalso; omega)
          · refine J_aload_n C 4 dX6_planted_150 rfl ?_
            refine g_X6_59 hG C dX6_planted_151 ?_
            refine J_iload C 0 dX6_planted_154 rfl ?_
            refine J_iload_n C 2 dX6_planted_156 rfl ?_
            refine mast hG C 17 20 (by decide) dX6_planted_157 (by omega) (by omega) ?_
            exfalso; omega
def msI (S : jMem) (k x : Int) : Prop := (0 ≤ x ∧ x < 256) ∧ ∀ j, 0 ≤ j → (zbit x j ↔ j < k ∧ 0 < S 5 j)
theorem msI.on {S : jMem} {k x : Int} (h : msI S k x) (hk : 0 ≤ k ∧ k < 8) (h5 : 0 < S 5 k) : msI S (k + 1) (zor x (1 * 2 ^ k.toNat)) := by
  refine ⟨⟨zor_nn _ _, zor_lt (k := 8) h.1.1 h.1.2 (zpow_lt (k := 8) hk.1 hk.2).2⟩, fun j hj => ?_⟩
  rw [zbit_zor h.1.1 hk.1 hj, h.2 j hj]
  constructor
  · rintro (q | q)
    · exact ⟨by omega, q.2⟩
    · subst q; exact ⟨by omega, h5⟩
  · intro q
    by_cases e : j = k
    · exact Or.inr e
    · exact Or.inl ⟨by omega, q.2⟩
theorem zor_0 {x : Int} (hx : 0 ≤ x) : zor x 0 = x := by
  unfold zor; rw [show (0 : Int).toNat = 0 from rfl, Nat.or_zero, Int.toNat_of_nonneg hx]
theorem msI.off {S : jMem} {k x : Int} (h : msI S k x) (h5 : ¬ 0 < S 5 k) : msI S (k + 1) (zor x 0) := by
  rw [zor_0 h.1.1]
  refine ⟨h.1, fun j hj => (h.2 j hj).trans ⟨fun q => ⟨by omega, q.2⟩, fun q => ⟨?_, q.2⟩⟩⟩
  by_cases e : j = k
  · subst e; exact absurd q.2 h5
  · omega
theorem msI.eq {S : jMem} {x m : Int} (h : msI S (S 0 1) x) (hm : isMset S m) : x = m := zbit_ext h.1.1 hm.1.1 (fun j hj => (h.2 j hj).trans (hm.2 j hj).symm)
theorem pl_0 {S0 : jMem} : plI S0 (tinit 0) 0 0 (up2 S0 0 21 0) := ⟨fun _ => 0, ⟨⟨keeps.rf.up (by decide) _ _, fun j hj => up2_a _ _ _ hj⟩, by rw [up2_eq]; omega, fun i a b => by omega, fun m a b => by rw [up2_eq] at b; omega, fun i a b => by omega⟩, by rw [up2_eq]; rfl, fun X hX => by rw [up2_eq] at hX; exact hX⟩
theorem pl_1 {S0 : jMem} {m : Int} (hm : isMset S0 m) (h0 : m ≠ 0) : plI S0 (tinit m) (2 * zcnt m - 1) 1 (up2 (up2 (up2 (up2 S0 0 21 0) 18 0 m) 19 0 (-9)) 20 0 0) := by
  have e21 : up2 (up2 (up2 (up2 S0 0 21 0) 18 0 m) 19 0 (-9)) 20 0 0 0 21 = 0 := by rw [up2_k _ _ _ (by decide), up2_k _ _ _ (by decide), up2_k _ _ _ (by decide), up2_eq]
  have e18 : up2 (up2 (up2 (up2 S0 0 21 0) 18 0 m) 19 0 (-9)) 20 0 0 18 0 = m := by rw [up2_k _ _ _ (by decide), up2_k _ _ _ (by decide), up2_eq]
  have e19 : up2 (up2 (up2 (up2 S0 0 21 0) 18 0 m) 19 0 (-9)) 20 0 0 19 0 = -9 := by rw [up2_k _ _ _ (by decide), up2_eq]
  have zc : zcnt m ≤ 8 := by
    rw [zcnt_lt (k := 8) hm.1.1 (by show m < 256; exact hm.1.2) (by decide)]
    have := pcnt_nn (zbit m) 8
    show pcnt (zbit m) 8 ≤ 8
    omega
  refine ⟨fun _ => 0, ⟨⟨(((keeps.rf.up (by decide) _ _).up (by decide) _ _).up (by decide) _ _).up (by decide) _ _, fun j hj => ?_⟩, by rw [e21]; omega, fun i a b => ?_, fun k a b => by rw [e21] at b; omega, fun i a b => ?_⟩, ?_, fun X hX => ?_⟩
  · rw [up2_k _ _ _ (by decide), up2_k _ _ _ (by decide), up2_k _ _ _ (by decide), up2_a _ _ _ hj]
  · have ei : i = 0 := by omega
    subst ei; rw [e18]; exact ⟨by have := hm.1; omega, fun j hj q => (hm.2 j hj).mp q⟩
  · have ei : i = 0 := by omega
    subst ei; exact Or.inl e19
  · rw [e21, show (1 : Int) = 0 + 1 from rfl, pw_s _ (by omega), e18, pw_0]; omega
  · rw [e21] at hX
    have es : stk (up2 (up2 (up2 (up2 S0 0 21 0) 18 0 m) 19 0 (-9)) 20 0 0 18) (1 : Int).toNat = [m] := by
      show up2 (up2 (up2 (up2 S0 0 21 0) 18 0 m) 19 0 (-9)) 20 0 0 18 0 :: [] = [m]
      rw [e18]
    rw [es] at hX
    unfold tinit; rw [if_neg h0]; exact hX
theorem lm_ms {E : jEnv} {G : jG} (hG : mG G) (C : jX E G cX6_planted 8 RX6 5 115) (S0 : jMem) (m : Int) (hk : mOK S0) (hl : mlOK S0) (hq : mlP S0) (hm : isMset S0 m) (R : jR E G (some .int) (jPi (fun v S' => plEnd S0 m v S'))) : ∀ (mm : Nat) (x k : Int), mm = (S0 0 1 - k).toNat → ((0 ≤ k ∧ k ≤ S0 0 1) ∧ msI S0 k x) → J E G 4 [(0, .ref (jad G 0)), (1, .int (iI (x))), (2, .int (iI (k)))] [] S0 := by
  intro mm
  induction mm using Nat.strongRecOn with | ind mm ih => ?_
  intro x k hmm hi
  obtain ⟨hk0, hj⟩ := hi
  have hn := hk.1
  have hx := hj.1
  refine J_iload_n C 2 dX6_planted_4 rfl ?_
  refine J_aload_n C 0 dX6_planted_5 rfl ?_
  refine g_X6_81 hG C dX6_planted_6 ?_
  refine J_icmp_ge C 37 dX6_planted_9 (by decide) (by omega) (by omega) (fun h1 => ?_) (fun h1 => ?_)
  · have ek : k = S0 0 1 := by omega
    rw [ek] at hj
    have exm := hj.eq hm
    subst exm
    refine J_lv [0, 1] rfl ?_
    refine J_aload_n C 0 dX6_planted_37 rfl ?_
    refine J_iconst C dX6_planted_38 ?_
    refine p_X6_174 hG C dX6_planted_39 ?_
    refine J_iconst C dX6_planted_42 ?_
    refine J_istore_n (lv' := [(2, .int (iI (0))), (0, .ref (jad G 0)), (1, .int (iI (x)))]) C dX6_planted_43 (by decide) rfl ?_
    refine J_iload_n C 2 dX6_planted_44 rfl ?_
    refine J_if_eq C 73 dX6_planted_45 (by decide) (by omega) (fun h71 => ?_) (fun h71 => ?_)
    · refine J_lv [1, 0] rfl ?_
      have e0 : x = 0 := by omega
      subst e0
      exact lm_pl hG C S0 0 _ hk hl hq R _ 0 _ rfl pl_0
    · refine J_aload_n C 1 dX6_planted_48 rfl ?_
      refine g_X6_62 hG C dX6_planted_49 ?_
      refine J_iload_n C 0 dX6_planted_52 rfl ?_
      refine J_iload_n C 2 dX6_planted_53 rfl ?_
      refine mast hG C 18 20 (by decide) dX6_planted_54 (by omega) (by omega) ?_
      refine J_aload_n C 1 dX6_planted_55 rfl ?_
      refine g_X6_65 hG C dX6_planted_56 ?_
      refine J_iload_n C 0 dX6_planted_59 rfl ?_
      refine J_bipush C dX6_planted_60 (by decide) ?_
      refine mast hG C 19 20 (by decide) dX6_planted_62 (by omega) (by omega) ?_
      refine J_aload_n C 1 dX6_planted_63 rfl ?_
      refine g_X6_68 hG C dX6_planted_64 ?_
      refine J_iload_n C 0 dX6_planted_67 rfl ?_
      refine J_iinc (lv' := [(2, .int (iI (1))), (0, .ref (jad G 0)), (1, .int (iI (x)))]) C 0 dX6_planted_68 rfl (by decide) rfl ?_
      refine J_iconst C dX6_planted_71 ?_
      refine mast hG C 20 20 (by decide) dX6_planted_72 (by omega) (by omega) ?_
      refine J_lv [1, 0] rfl ?_
      exact lm_pl hG C S0 x _ hk hl hq R _ 1 _ rfl (pl_1 hm (by omega))
  · refine J_iload_n C 1 dX6_planted_12 rfl ?_
    refine J_aload_n C 0 dX6_planted_13 rfl ?_
    refine g_X6_22 hG C dX6_planted_14 ?_
    refine J_iload_n C 2 dX6_planted_17 rfl ?_
    refine mald hG C 5 8 (by decide) dX6_planted_18 (by omega) (by omega) ?_
    have m2 := hl.1 (k) (by omega) (by omega)
    refine J_if_le C 28 dX6_planted_19 (by decide) (by omega) (fun h3 => ?_) (fun h3 => ?_)
    · refine J_iconst C dX6_planted_28 ?_
      refine J_ior C (zor (x) (0)) dX6_planted_29 (iI_zor (by omega) (by omega) (by omega) (by omega)) ?_
      refine J_istore_n (lv' := [(1, .int (iI (zor (x) (0)))), (0, .ref (jad G 0)), (2, .int (iI (k)))]) C dX6_planted_30 (by decide) rfl ?_
      refine J_iinc (lv' := [(2, .int (iI (k + 1))), (1, .int (iI (zor (x) (0)))), (0, .ref (jad G 0))]) C 2 dX6_planted_31 rfl (by decide) rfl ?_
      refine J_goto C 4 dX6_planted_34 (by decide) ?_
      refine J_lv [2, 1, 0] rfl ?_
      exact ih _ (by omega) _ (k + 1) rfl ⟨by omega, hj.off (by omega)⟩
    · have hpw := zpow_in (b := k) (by omega) (by omega)
      refine J_iconst C dX6_planted_22 ?_
      refine J_iload_n C 2 dX6_planted_23 rfl ?_
      refine J_ishl C dX6_planted_24 (by omega) (by omega) ?_
      refine J_goto C 29 dX6_planted_25 (by decide) ?_
      refine J_ior C (zor (x) ((1) * 2 ^ (k).toNat)) dX6_planted_29 (iI_zor (by omega) (by omega) (by omega) (by omega)) ?_
      refine J_istore_n (lv' := [(1, .int (iI (zor (x) ((1) * 2 ^ (k).toNat)))), (0, .ref (jad G 0)), (2, .int (iI (k)))]) C dX6_planted_30 (by decide) rfl ?_
      refine J_iinc (lv' := [(2, .int (iI (k + 1))), (1, .int (iI (zor (x) ((1) * 2 ^ (k).toNat)))), (0, .ref (jad G 0))]) C 2 dX6_planted_31 rfl (by decide) rfl ?_
      refine J_goto C 4 dX6_planted_34 (by decide) ?_
      refine J_lv [2, 1, 0] rfl ?_
      exact ih _ (by omega) _ (k + 1) rfl ⟨by omega, hj.on (by omega) (by omega)⟩
theorem m_planted {G : jG} (hG : mG G) (S0 : jMem) (m : Int) (hk : mOK S0) (hl : mlOK S0) (hq : mlP S0) (hm : isMset S0 m) : jM G yX6_planted cX6_planted 8 (some .int) 5 115 [.ref (jad G 0)] S0 (jPi (fun v S' => plEnd S0 m v S')) := by
  refine jM.of (by decide) (Nat.le_of_ble_eq_true rfl) (fun E C R => ?_)
  show J E G 0 [(0, .ref (jad G 0))] [] _
  have hn := hk.1
  refine J_iconst C dX6_planted_0 ?_
  refine J_istore_n (lv' := [(1, .int (iI (0))), (0, .ref (jad G 0))]) C dX6_planted_1 (by decide) rfl ?_
  refine J_iconst C dX6_planted_2 ?_
  refine J_istore_n (lv' := [(2, .int (iI (0))), (1, .int (iI (0))), (0, .ref (jad G 0))]) C dX6_planted_3 (by decide) rfl ?_
  refine J_lv [2, 1, 0] rfl ?_
  exact lm_ms hG C S0 m hk hl hq hm R _ 0 0 rfl ⟨by omega, by omega, fun j hj => ⟨fun q => absurd q (zbit_0 j), fun q => by omega⟩⟩
theorem movs_in {S : jMem} (hk : mOK S) : 0 ≤ movs S ∧ movs S ≤ 64 := by
  have hn := hk.1
  have h1 := isum_in (f := fun a => isum (movl S a) 0 (a - 0).toNat) (B := 8) (S 0 1 - 0).toNat 0 (fun j j1 j2 => by
    have h2 := isum_in (f := movl S j) (B := 1) (j - 0).toNat 0 (fun i _ _ => bb_in _)
    try dsimp only
    omega)
  unfold movs
  omega
theorem m_tree {G : jG} (hG : mG G) (S : jMem) (m : Int) (hk : mOK S) (hl : mlOK S) (hq : mlP S) (hm : isMset S m) : jM G yX6_tree cX6_tree 1 (some .int) 6 142 [.ref (jad G 0)] S (jPi (fun v S' => if 0 < movs S then v = -2 ∧ S' = S else plEnd S m v S')) := by
  refine jM.of (by decide) (Nat.le_of_ble_eq_true rfl) (fun E C R => ?_)
  show J E G 0 [(0, .ref (jad G 0))] [] _
  have hmo := movs_in hk
  refine J_aload_n C 0 dX6_tree_0 rfl ?_
  refine J_callV (k := 0) (rest := []) C (m_overlaps hG S hk hl) kc_X6_overlaps kl_X6_158 (by rw [hG.2]; decide) (by rw [hG.1]; rfl) rfl dX6_tree_1 rfl rfl (by decide) (Nat.le_of_ble_eq_true rfl) (J_ki (fun v1 S1 h1 => ?_))
  obtain ⟨rfl, rfl⟩ := h1
  refine J_if_le C 12 dX6_tree_4 (by decide) (by omega) (fun h2 => ?_) (fun h2 => ?_)
  · refine J_aload_n C 0 dX6_tree_12 rfl ?_
    refine J_callV (k := 0) (rest := []) C (m_planted hG S m hk hl hq hm) kc_X6_planted kl_X6_186 (by rw [hG.2]; decide) (by rw [hG.1]; rfl) rfl dX6_tree_13 rfl rfl (by decide) (Nat.le_of_ble_eq_true rfl) (J_ki (fun v3 S3 h3 => ?_))
    have hE := h3
    have hvE : 0 ≤ v3 ∧ v3 ≤ 15 := by obtain ⟨X, -, -, q, -⟩ := hE; exact q
    exact J_iret R C dX6_tree_16 (jPi.mk (by rw [if_neg (by omega)]; exact hE))
  · refine J_bipush C dX6_tree_7 (by decide) ?_
    refine J_goto C 16 dX6_tree_9 (by decide) ?_
    exact J_iret R C dX6_tree_16 (jPi.mk (by rw [if_pos (by omega)]; exact ⟨rfl, rfl⟩))
def ndA (S : jMem) (m k w v : Int) (S' : jMem) : Prop := if (0 ≤ k ∧ k ≤ 14) ∧ (0 ≤ w ∧ w ≤ 3) then (if 0 < movs S then v = -2 ∧ S' = S else ∃ c, plEnd S m c S' ∧ ((c ≤ k ∧ v = -9) ∨ (k < c ∧ v = if w = 0 then S' 14 k else if w = 1 then S' 15 k else if w = 2 then S' 16 k else S' 17 k))) else v = -1 ∧ S' = S
theorem m_node {G : jG} (hG : mG G) (S : jMem) (m k w : Int) (hk : mOK S) (hl : mlOK S) (hq : mlP S) (hm : isMset S m) (hkr : inR k) (hwr : inR w) : jM G yX6_node cX6_node 3 (some .int) 6 142 [.ref (jad G 0), .int (iI (k)), .int (iI (w))] S (jPi (fun v S' => ndA S m k w v S')) := by
  refine jM.of (by decide) (Nat.le_of_ble_eq_true rfl) (fun E C R => ?_)
  show J E G 0 [(0, .ref (jad G 0)), (1, .int (iI (k))), (2, .int (iI (w)))] [] _
  have hmo := movs_in hk
  refine J_iload_n C 2 dX6_node_0 rfl ?_
  refine J_if_lt C 19 dX6_node_1 (by decide) (by omega) (fun h1 => ?_) (fun h1 => ?_)
  · refine J_iconst C dX6_node_19 ?_
    exact J_iret R C dX6_node_20 (jPi.mk (by unfold ndA; rw [if_neg (by omega)]; exact ⟨rfl, rfl⟩))
  · refine J_iload_n C 2 dX6_node_4 rfl ?_
    refine J_iconst C dX6_node_5 ?_
    refine J_icmp_gt C 19 dX6_node_6 (by decide) (by omega) (by omega) (fun h2 => ?_) (fun h2 => ?_)
    · refine J_iconst C dX6_node_19 ?_
      exact J_iret R C dX6_node_20 (jPi.mk (by unfold ndA; rw [if_neg (by omega)]; exact ⟨rfl, rfl⟩))
    · refine J_iload_n C 1 dX6_node_9 rfl ?_
      refine J_if_lt C 19 dX6_node_10 (by decide) (by omega) (fun h3 => ?_) (fun h3 => ?_)
      · refine J_iconst C dX6_node_19 ?_
        exact J_iret R C dX6_node_20 (jPi.mk (by unfold ndA; rw [if_neg (by omega)]; exact ⟨rfl, rfl⟩))
      · refine J_iload_n C 1 dX6_node_13 rfl ?_
        refine J_bipush C dX6_node_14 (by decide) ?_
        refine J_icmp_le C 21 dX6_node_16 (by decide) (by omega) (by omega) (fun h4 => ?_) (fun h4 => ?_)
        · refine J_aload_n C 0 dX6_node_21 rfl ?_
          refine J_callV (k := 0) (rest := []) C (m_overlaps hG S hk hl) kc_X6_overlaps kl_X6_158 (by rw [hG.2]; decide) (by rw [hG.1]; rfl) rfl dX6_node_22 rfl rfl (by decide) (Nat.le_of_ble_eq_true rfl) (J_ki (fun v5 S5 h5 => ?_))
          obtain ⟨rfl, rfl⟩ := h5
          refine J_if_le C 31 dX6_node_25 (by decide) (by omega) (fun h6 => ?_) (fun h6 => ?_)
          · refine J_iload_n C 1 dX6_node_31 rfl ?_
            refine J_aload_n C 0 dX6_node_32 rfl ?_
            refine J_callV (k := 0) (rest := [.int (iI (k))]) C (m_planted hG S m hk hl hq hm) kc_X6_planted kl_X6_186 (by rw [hG.2]; decide) (by rw [hG.1]; rfl) rfl dX6_node_33 rfl rfl (by decide) (Nat.le_of_ble_eq_true rfl) (J_ki (fun v7 S7 h7 => ?_))
            have hE := h7
            have hvE : 0 ≤ v7 ∧ v7 ≤ 15 := by obtain ⟨X, -, -, q, -⟩ := hE; exact q
            refine J_icmp_lt C 42 dX6_node_36 (by decide) (by omega) (by omega) (fun h8 => ?_) (fun h8 => ?_)
            · refine J_iload_n C 2 dX6_node_42 rfl ?_
              refine J_if_ne C 55 dX6_node_43 (by decide) (by omega) (fun h9 => ?_) (fun h9 => ?_)
              · refine J_iload_n C 2 dX6_node_55 rfl ?_
                refine J_iconst C dX6_node_56 ?_
                refine J_icmp_ne C 69 dX6_node_57 (by decide) (by omega) (by omega) (fun h10 => ?_) (fun h10 => ?_)
                · refine J_iload_n C 2 dX6_node_69 rfl ?_
                  refine J_iconst C dX6_node_70 ?_
                  refine J_icmp_ne C 83 dX6_node_71 (by decide) (by omega) (by omega) (fun h11 => ?_) (fun h11 => ?_)
                  · refine J_aload_n C 0 dX6_node_83 rfl ?_
                    refine g_X6_59 hG C dX6_node_84 ?_
                    refine J_iload_n C 1 dX6_node_87 rfl ?_
                    refine mald hG C 17 20 (by decide) dX6_node_88 (by omega) (by omega) ?_
                    exact J_iret R C dX6_node_89 (jPi.mk (by unfold ndA; rw [if_pos (by omega), if_neg (by omega)]; refine ⟨_, hE, Or.inr ⟨by omega, ?_⟩⟩; (repeat first | rw [if_pos (by omega)] | rw [if_neg (by omega)])))
                  · refine J_aload_n C 0 dX6_node_74 rfl ?_
                    refine g_X6_56 hG C dX6_node_75 ?_
                    refine J_iload_n C 1 dX6_node_78 rfl ?_
                    refine mald hG C 16 20 (by decide) dX6_node_79 (by omega) (by omega) ?_
                    refine J_goto C 89 dX6_node_80 (by decide) ?_
                    exact J_iret R C dX6_node_89 (jPi.mk (by unfold ndA; rw [if_pos (by omega), if_neg (by omega)]; refine ⟨_, hE, Or.inr ⟨by omega, ?_⟩⟩; (repeat first | rw [if_pos (by omega)] | rw [if_neg (by omega)])))
                · refine J_aload_n C 0 dX6_node_60 rfl ?_
                  refine g_X6_53 hG C dX6_node_61 ?_
                  refine J_iload_n C 1 dX6_node_64 rfl ?_
                  refine mald hG C 15 20 (by decide) dX6_node_65 (by omega) (by omega) ?_
                  refine J_goto C 89 dX6_node_66 (by decide) ?_
                  exact J_iret R C dX6_node_89 (jPi.mk (by unfold ndA; rw [if_pos (by omega), if_neg (by omega)]; refine ⟨_, hE, Or.inr ⟨by omega, ?_⟩⟩; (repeat first | rw [if_pos (by omega)] | rw [if_neg (by omega)])))
              · refine J_aload_n C 0 dX6_node_46 rfl ?_
                refine g_X6_50 hG C dX6_node_47 ?_
                refine J_iload_n C 1 dX6_node_50 rfl ?_
                refine mald hG C 14 20 (by decide) dX6_node_51 (by omega) (by omega) ?_
                refine J_goto C 89 dX6_node_52 (by decide) ?_
                exact J_iret R C dX6_node_89 (jPi.mk (by unfold ndA; rw [if_pos (by omega), if_neg (by omega)]; refine ⟨_, hE, Or.inr ⟨by omega, ?_⟩⟩; (repeat first | rw [if_pos (by omega)] | rw [if_neg (by omega)])))
            · refine J_bipush C dX6_node_39 (by decide) ?_
              exact J_iret R C dX6_node_41 (jPi.mk (by unfold ndA; rw [if_pos (by omega), if_neg (by omega)]; exact ⟨_, hE, Or.inl ⟨by omega, rfl⟩⟩))
          · refine J_bipush C dX6_node_28 (by decide) ?_
            exact J_iret R C dX6_node_30 (jPi.mk (by unfold ndA; rw [if_pos (by omega), if_pos (by omega)]; exact ⟨rfl, rfl⟩))
        · refine J_iconst C dX6_node_19 ?_
          exact J_iret R C dX6_node_20 (jPi.mk (by unfold ndA; rw [if_neg (by omega)]; exact ⟨rfl, rfl⟩))
