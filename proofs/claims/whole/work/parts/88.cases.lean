/-! the law's cases: both answer the same, and stay of a kind -/
set_option maxHeartbeats 1000000 in
theorem law_bin {E : lEnv} (C : LX E) {i : Int} {S M : jMem} (h0 : 0 ≤ i) (h6 : i + 6 ≤ (eL E : Int)) (hR : REL S M) (kk : ∀ S' M', REL S' M' → LJ E 816 (lvL E i) [] S' M') : LJ E 132 (lvL E i) [] S M := by
  refine L_aload_n C 1 dL_law_132 rfl ?_
  refine L_arg C (k := 1) h0 (by omega) (by omega) dL_law_133 dL_law_134 dL_law_135 dL_law_136 dL_law_137 ?_
  refine L_arg C (k := 2) h0 (by omega) (by omega) dL_law_138 dL_law_139 dL_law_140 dL_law_141 dL_law_142 ?_
  refine L_arg C (k := 3) h0 (by omega) (by omega) dL_law_143 dL_law_144 dL_law_145 dL_law_146 dL_law_147 ?_
  refine L_callC C (As := [.int (iI (xz E (i + 1))), .int (iI (xz E (i + 2))), .int (iI (xz E (i + 3)))]) (rest := []) (c_bin (G := eG E) ⟨rfl, rfl⟩ S (xz E (i + 1)) (xz E (i + 2)) (xz E (i + 3)) hR.ck (iI_inR _) (iI_inR _) (iI_inR _)) kc_X5_bin rfl kl_L_13 dL_law_148 rfl rfl ⟨by decide, by decide⟩ (Nat.le_of_ble_eq_true rfl) (fun r S' hp => ?_)
  obtain ⟨v, rfl, hv⟩ := hp
  refine L_aload_n C 2 dL_law_151 rfl ?_
  refine L_arg C (k := 1) h0 (by omega) (by omega) dL_law_152 dL_law_153 dL_law_154 dL_law_155 dL_law_156 ?_
  refine L_arg C (k := 2) h0 (by omega) (by omega) dL_law_157 dL_law_158 dL_law_159 dL_law_160 dL_law_161 ?_
  refine L_arg C (k := 3) h0 (by omega) (by omega) dL_law_162 dL_law_163 dL_law_164 dL_law_165 dL_law_166 ?_
  refine L_callM C (As := [.int (iI (xz E (i + 1))), .int (iI (xz E (i + 2))), .int (iI (xz E (i + 3)))]) (rest := [.int (iI v)]) (m_bin (G := eK E) ⟨rfl, rfl⟩ M (xz E (i + 1)) (xz E (i + 2)) (xz E (i + 3)) hR.2.1 (iI_inR _) (iI_inR _) (iI_inR _)) kc_X6_bin rfl kl_L_17 dL_law_167 rfl rfl ⟨by decide, by decide⟩ (Nat.le_of_ble_eq_true rfl) (fun r M' hp => ?_)
  obtain ⟨u, rfl, hu⟩ := hp
  obtain ⟨e, hR2⟩ := hR.bin hv hu
  exact L_same C e dL_law_170 (by decide) (kk _ _ hR2)
set_option maxHeartbeats 1000000 in
theorem law_box {E : lEnv} (C : LX E) {i : Int} {S M : jMem} (h0 : 0 ≤ i) (h6 : i + 6 ≤ (eL E : Int)) (hR : REL S M) (kk : ∀ S' M', REL S' M' → LJ E 816 (lvL E i) [] S' M') : LJ E 175 (lvL E i) [] S M := by
  refine L_aload_n C 1 dL_law_175 rfl ?_
  refine L_arg C (k := 1) h0 (by omega) (by omega) dL_law_176 dL_law_177 dL_law_178 dL_law_179 dL_law_180 ?_
  refine L_arg C (k := 2) h0 (by omega) (by omega) dL_law_181 dL_law_182 dL_law_183 dL_law_184 dL_law_185 ?_
  refine L_arg C (k := 3) h0 (by omega) (by omega) dL_law_186 dL_law_187 dL_law_188 dL_law_189 dL_law_190 ?_
  refine L_callC C (As := [.int (iI (xz E (i + 1))), .int (iI (xz E (i + 2))), .int (iI (xz E (i + 3)))]) (rest := []) (c_box (G := eG E) ⟨rfl, rfl⟩ S (xz E (i + 1)) (xz E (i + 2)) (xz E (i + 3)) hR.ck (iI_inR _) (iI_inR _) (iI_inR _)) kc_X5_box rfl kl_L_18 dL_law_191 rfl rfl ⟨by decide, by decide⟩ (Nat.le_of_ble_eq_true rfl) (fun r S' hp => ?_)
  obtain ⟨v, rfl, hv⟩ := hp
  refine L_aload_n C 2 dL_law_194 rfl ?_
  refine L_arg C (k := 1) h0 (by omega) (by omega) dL_law_195 dL_law_196 dL_law_197 dL_law_198 dL_law_199 ?_
  refine L_arg C (k := 2) h0 (by omega) (by omega) dL_law_200 dL_law_201 dL_law_202 dL_law_203 dL_law_204 ?_
  refine L_arg C (k := 3) h0 (by omega) (by omega) dL_law_205 dL_law_206 dL_law_207 dL_law_208 dL_law_209 ?_
  refine L_callM C (As := [.int (iI (xz E (i + 1))), .int (iI (xz E (i + 2))), .int (iI (xz E (i + 3)))]) (rest := [.int (iI v)]) (m_box (G := eK E) ⟨rfl, rfl⟩ M (xz E (i + 1)) (xz E (i + 2)) (xz E (i + 3)) hR.2.1 (iI_inR _) (iI_inR _) (iI_inR _)) kc_X6_box rfl kl_L_21 dL_law_210 rfl rfl ⟨by decide, by decide⟩ (Nat.le_of_ble_eq_true rfl) (fun r M' hp => ?_)
  obtain ⟨u, rfl, hu⟩ := hp
  obtain ⟨e, hR2⟩ := hR.box hv hu
  exact L_same C e dL_law_213 (by decide) (kk _ _ hR2)
set_option maxHeartbeats 1000000 in
theorem law_turns {E : lEnv} (C : LX E) {i : Int} {S M : jMem} (h0 : 0 ≤ i) (h6 : i + 6 ≤ (eL E : Int)) (hR : REL S M) (kk : ∀ S' M', REL S' M' → LJ E 816 (lvL E i) [] S' M') : LJ E 218 (lvL E i) [] S M := by
  refine L_aload_n C 1 dL_law_218 rfl ?_
  refine L_arg C (k := 1) h0 (by omega) (by omega) dL_law_219 dL_law_220 dL_law_221 dL_law_222 dL_law_223 ?_
  refine L_arg C (k := 2) h0 (by omega) (by omega) dL_law_224 dL_law_225 dL_law_226 dL_law_227 dL_law_228 ?_
  refine L_callC C (As := [.int (iI (xz E (i + 1))), .int (iI (xz E (i + 2)))]) (rest := []) (c_turns (G := eG E) ⟨rfl, rfl⟩ S (xz E (i + 1)) (xz E (i + 2)) hR.ck (iI_inR _) (iI_inR _)) kc_X5_turns rfl kl_L_22 dL_law_229 rfl rfl ⟨by decide, by decide⟩ (Nat.le_of_ble_eq_true rfl) (fun r S' hp => ?_)
  obtain ⟨v, rfl, hv⟩ := hp
  refine L_aload_n C 2 dL_law_232 rfl ?_
  refine L_arg C (k := 1) h0 (by omega) (by omega) dL_law_233 dL_law_234 dL_law_235 dL_law_236 dL_law_237 ?_
  refine L_arg C (k := 2) h0 (by omega) (by omega) dL_law_238 dL_law_239 dL_law_240 dL_law_241 dL_law_242 ?_
  refine L_callM C (As := [.int (iI (xz E (i + 1))), .int (iI (xz E (i + 2)))]) (rest := [.int (iI v)]) (m_turns (G := eK E) ⟨rfl, rfl⟩ M (xz E (i + 1)) (xz E (i + 2)) hR.2.1 (iI_inR _) (iI_inR _)) kc_X6_turns rfl kl_L_26 dL_law_243 rfl rfl ⟨by decide, by decide⟩ (Nat.le_of_ble_eq_true rfl) (fun r M' hp => ?_)
  obtain ⟨u, rfl, hu⟩ := hp
  obtain ⟨e, hR2⟩ := hR.turns hv hu
  exact L_same C e dL_law_246 (by decide) (kk _ _ hR2)
set_option maxHeartbeats 1000000 in
theorem law_weight {E : lEnv} (C : LX E) {i : Int} {S M : jMem} (h0 : 0 ≤ i) (h6 : i + 6 ≤ (eL E : Int)) (hR : REL S M) (kk : ∀ S' M', REL S' M' → LJ E 816 (lvL E i) [] S' M') : LJ E 251 (lvL E i) [] S M := by
  refine L_aload_n C 1 dL_law_251 rfl ?_
  refine L_arg C (k := 1) h0 (by omega) (by omega) dL_law_252 dL_law_253 dL_law_254 dL_law_255 dL_law_256 ?_
  refine L_arg C (k := 2) h0 (by omega) (by omega) dL_law_257 dL_law_258 dL_law_259 dL_law_260 dL_law_261 ?_
  refine L_callC C (As := [.int (iI (xz E (i + 1))), .int (iI (xz E (i + 2)))]) (rest := []) (c_weight (G := eG E) ⟨rfl, rfl⟩ S (xz E (i + 1)) (xz E (i + 2)) hR.ck (iI_inR _) (iI_inR _)) kc_X5_weight rfl kl_L_27 dL_law_262 rfl rfl ⟨by decide, by decide⟩ (Nat.le_of_ble_eq_true rfl) (fun r S' hp => ?_)
  obtain ⟨v, rfl, hv⟩ := hp
  refine L_aload_n C 2 dL_law_265 rfl ?_
  refine L_arg C (k := 1) h0 (by omega) (by omega) dL_law_266 dL_law_267 dL_law_268 dL_law_269 dL_law_270 ?_
  refine L_arg C (k := 2) h0 (by omega) (by omega) dL_law_271 dL_law_272 dL_law_273 dL_law_274 dL_law_275 ?_
  refine L_callM C (As := [.int (iI (xz E (i + 1))), .int (iI (xz E (i + 2)))]) (rest := [.int (iI v)]) (m_weight (G := eK E) ⟨rfl, rfl⟩ M (xz E (i + 1)) (xz E (i + 2)) hR.2.1 (iI_inR _) (iI_inR _)) kc_X6_weight rfl kl_L_30 dL_law_276 rfl rfl ⟨by decide, by decide⟩ (Nat.le_of_ble_eq_true rfl) (fun r M' hp => ?_)
  obtain ⟨u, rfl, hu⟩ := hp
  obtain ⟨e, hR2⟩ := hR.weight hv hu
  exact L_same C e dL_law_279 (by decide) (kk _ _ hR2)
set_option maxHeartbeats 1000000 in
theorem law_clear {E : lEnv} (C : LX E) {i : Int} {S M : jMem} (h0 : 0 ≤ i) (h6 : i + 6 ≤ (eL E : Int)) (hR : REL S M) (kk : ∀ S' M', REL S' M' → LJ E 816 (lvL E i) [] S' M') : LJ E 284 (lvL E i) [] S M := by
  refine L_aload_n C 1 dL_law_284 rfl ?_
  refine L_callC C (As := []) (rest := []) (c_clear (G := eG E) ⟨rfl, rfl⟩ S  hR.ck ) kc_X5_clear rfl kl_L_31 dL_law_285 rfl rfl ⟨by decide, by decide⟩ (Nat.le_of_ble_eq_true rfl) (fun r S' hp => ?_)
  obtain ⟨v, rfl, hv⟩ := hp
  refine L_aload_n C 2 dL_law_288 rfl ?_
  refine L_callM C (As := []) (rest := [.int (iI v)]) (m_clear (G := eK E) ⟨rfl, rfl⟩ M  hR.2.1 ) kc_X6_clear rfl kl_L_35 dL_law_289 rfl rfl ⟨by decide, by decide⟩ (Nat.le_of_ble_eq_true rfl) (fun r M' hp => ?_)
  obtain ⟨u, rfl, hu⟩ := hp
  obtain ⟨e, hR2⟩ := hR.clear hv hu
  exact L_same C e dL_law_292 (by decide) (kk _ _ hR2)
set_option maxHeartbeats 1000000 in
theorem law_run {E : lEnv} (C : LX E) {i : Int} {S M : jMem} (h0 : 0 ≤ i) (h6 : i + 6 ≤ (eL E : Int)) (hR : REL S M) (kk : ∀ S' M', REL S' M' → LJ E 816 (lvL E i) [] S' M') : LJ E 297 (lvL E i) [] S M := by
  refine L_aload_n C 1 dL_law_297 rfl ?_
  refine L_arg C (k := 1) h0 (by omega) (by omega) dL_law_298 dL_law_299 dL_law_300 dL_law_301 dL_law_302 ?_
  refine L_callC C (As := [.int (iI (xz E (i + 1)))]) (rest := []) (c_run (G := eG E) ⟨rfl, rfl⟩ S (xz E (i + 1)) (M 0 7) (M 0 8) (M 0 9) (M 8) hR.ck hR.2.2.1.2 (iI_inR _) hR.2.2.2.1.2) kc_X5_run rfl kl_L_36 dL_law_303 rfl rfl ⟨by decide, by decide⟩ (Nat.le_of_ble_eq_true rfl) (fun r S' hp => ?_)
  obtain ⟨v, rfl, hv⟩ := hp
  refine L_aload_n C 2 dL_law_306 rfl ?_
  refine L_arg C (k := 1) h0 (by omega) (by omega) dL_law_307 dL_law_308 dL_law_309 dL_law_310 dL_law_311 ?_
  refine L_callM C (As := [.int (iI (xz E (i + 1)))]) (rest := [.int (iI v)]) (m_run (G := eK E) ⟨rfl, rfl⟩ M (xz E (i + 1)) hR.2.1 hR.2.2.1.1 (iI_inR _) hR.2.2.2.1.1) kc_X6_run rfl kl_L_40 dL_law_312 rfl rfl ⟨by decide, by decide⟩ (Nat.le_of_ble_eq_true rfl) (fun r M' hp => ?_)
  obtain ⟨u, rfl, hu⟩ := hp
  obtain ⟨e, hR2⟩ := hR.run hv hu
  exact L_same C e dL_law_315 (by decide) (kk _ _ hR2)
set_option maxHeartbeats 1000000 in
theorem law_told {E : lEnv} (C : LX E) {i : Int} {S M : jMem} (h0 : 0 ≤ i) (h6 : i + 6 ≤ (eL E : Int)) (hR : REL S M) (kk : ∀ S' M', REL S' M' → LJ E 816 (lvL E i) [] S' M') : LJ E 320 (lvL E i) [] S M := by
  refine L_aload_n C 1 dL_law_320 rfl ?_
  refine L_arg C (k := 1) h0 (by omega) (by omega) dL_law_321 dL_law_322 dL_law_323 dL_law_324 dL_law_325 ?_
  refine L_arg C (k := 2) h0 (by omega) (by omega) dL_law_326 dL_law_327 dL_law_328 dL_law_329 dL_law_330 ?_
  refine L_callC C (As := [.int (iI (xz E (i + 1))), .int (iI (xz E (i + 2)))]) (rest := []) (c_told (G := eG E) ⟨rfl, rfl⟩ S (xz E (i + 1)) (xz E (i + 2)) hR.ck hR.2.2.1.2 (iI_inR _) (iI_inR _)) kc_X5_told rfl kl_L_41 dL_law_331 rfl rfl ⟨by decide, by decide⟩ (Nat.le_of_ble_eq_true rfl) (fun r S' hp => ?_)
  obtain ⟨v, rfl, hv⟩ := hp
  refine L_aload_n C 2 dL_law_334 rfl ?_
  refine L_arg C (k := 1) h0 (by omega) (by omega) dL_law_335 dL_law_336 dL_law_337 dL_law_338 dL_law_339 ?_
  refine L_arg C (k := 2) h0 (by omega) (by omega) dL_law_340 dL_law_341 dL_law_342 dL_law_343 dL_law_344 ?_
  refine L_callM C (As := [.int (iI (xz E (i + 1))), .int (iI (xz E (i + 2)))]) (rest := [.int (iI v)]) (m_told (G := eK E) ⟨rfl, rfl⟩ M (xz E (i + 1)) (xz E (i + 2)) hR.2.1 hR.2.2.1.1 (iI_inR _) (iI_inR _)) kc_X6_told rfl kl_L_44 dL_law_345 rfl rfl ⟨by decide, by decide⟩ (Nat.le_of_ble_eq_true rfl) (fun r M' hp => ?_)
  obtain ⟨u, rfl, hu⟩ := hp
  obtain ⟨e1, rfl⟩ := hv
  obtain ⟨e2, rfl⟩ := hu
  have e : v = u := by
    rw [← e1, ← e2]
    exact hR.told
  have hR2 := hR
  exact L_same C e dL_law_348 (by decide) (kk _ _ hR2)
set_option maxHeartbeats 1000000 in
theorem law_plan {E : lEnv} (C : LX E) {i : Int} {S M : jMem} (h0 : 0 ≤ i) (h6 : i + 6 ≤ (eL E : Int)) (hR : REL S M) (kk : ∀ S' M', REL S' M' → LJ E 816 (lvL E i) [] S' M') : LJ E 353 (lvL E i) [] S M := by
  refine L_aload_n C 1 dL_law_353 rfl ?_
  refine L_callC C (As := []) (rest := []) (c_plan (G := eG E) ⟨rfl, rfl⟩ S hR.ck hR.2.2.1.2 hR.2.2.2.2.1.2.2.1 (by rw [hR.2.2.2.1.2.1.1]; exact hR.2.2.2.1.1.2.1) (fun h => hR.plH h)) kc_X5_plan rfl kl_L_45 dL_law_354 rfl rfl ⟨by decide, by decide⟩ (Nat.le_of_ble_eq_true rfl) (fun r S' hp => ?_)
  obtain ⟨v, rfl, hv⟩ := hp
  refine L_aload_n C 2 dL_law_357 rfl ?_
  refine L_callM C (As := []) (rest := [.int (iI v)]) (m_plan (G := eK E) ⟨rfl, rfl⟩ M hR.2.1 hR.2.2.2.1.1.2.1) kc_X6_plan rfl kl_L_48 dL_law_358 rfl rfl ⟨by decide, by decide⟩ (Nat.le_of_ble_eq_true rfl) (fun r M' hp => ?_)
  obtain ⟨u, rfl, hu⟩ := hp
  obtain ⟨e, hR2⟩ := hR.plan hv hu
  exact L_same C e dL_law_361 (by decide) (kk _ _ hR2)
set_option maxHeartbeats 1000000 in
theorem law_lay {E : lEnv} (C : LX E) {i : Int} {S M : jMem} (h0 : 0 ≤ i) (h6 : i + 6 ≤ (eL E : Int)) (hR : REL S M) (kk : ∀ S' M', REL S' M' → LJ E 816 (lvL E i) [] S' M') : LJ E 366 (lvL E i) [] S M := by
  refine L_aload_n C 1 dL_law_366 rfl ?_
  refine L_arg C (k := 1) h0 (by omega) (by omega) dL_law_367 dL_law_368 dL_law_369 dL_law_370 dL_law_371 ?_
  refine L_arg C (k := 2) h0 (by omega) (by omega) dL_law_372 dL_law_373 dL_law_374 dL_law_375 dL_law_376 ?_
  refine L_arg C (k := 3) h0 (by omega) (by omega) dL_law_377 dL_law_378 dL_law_379 dL_law_380 dL_law_381 ?_
  refine L_arg C (k := 4) h0 (by omega) (by omega) dL_law_382 dL_law_383 dL_law_384 dL_law_385 dL_law_386 ?_
  refine L_arg C (k := 5) h0 (by omega) (by omega) dL_law_387 dL_law_388 dL_law_389 dL_law_390 dL_law_391 ?_
  refine L_callC C (As := [.int (iI (xz E (i + 1))), .int (iI (xz E (i + 2))), .int (iI (xz E (i + 3))), .int (iI (xz E (i + 4))), .int (iI (xz E (i + 5)))]) (rest := []) (c_lay (G := eG E) ⟨rfl, rfl⟩ S (xz E (i + 1)) (xz E (i + 2)) (xz E (i + 3)) (xz E (i + 4)) (xz E (i + 5)) hR.ck hR.2.2.2.2.1.2.2.1 (iI_inR _) (iI_inR _) (iI_inR _) (iI_inR _) (iI_inR _)) kc_X5_lay rfl kl_L_49 dL_law_392 rfl rfl ⟨by decide, by decide⟩ (Nat.le_of_ble_eq_true rfl) (fun r S' hp => ?_)
  obtain ⟨v, rfl, hv⟩ := hp
  refine L_aload_n C 2 dL_law_395 rfl ?_
  refine L_arg C (k := 1) h0 (by omega) (by omega) dL_law_396 dL_law_397 dL_law_398 dL_law_399 dL_law_400 ?_
  refine L_arg C (k := 2) h0 (by omega) (by omega) dL_law_401 dL_law_402 dL_law_403 dL_law_404 dL_law_405 ?_
  refine L_arg C (k := 3) h0 (by omega) (by omega) dL_law_406 dL_law_407 dL_law_408 dL_law_409 dL_law_410 ?_
  refine L_arg C (k := 4) h0 (by omega) (by omega) dL_law_411 dL_law_412 dL_law_413 dL_law_414 dL_law_415 ?_
  refine L_arg C (k := 5) h0 (by omega) (by omega) dL_law_416 dL_law_417 dL_law_418 dL_law_419 dL_law_420 ?_
  refine L_callM C (As := [.int (iI (xz E (i + 1))), .int (iI (xz E (i + 2))), .int (iI (xz E (i + 3))), .int (iI (xz E (i + 4))), .int (iI (xz E (i + 5)))]) (rest := [.int (iI v)]) (m_lay (G := eK E) ⟨rfl, rfl⟩ M (xz E (i + 1)) (xz E (i + 2)) (xz E (i + 3)) (xz E (i + 4)) (xz E (i + 5)) hR.2.1 hR.2.2.2.2.1.1 (iI_inR _) (iI_inR _) (iI_inR _) (iI_inR _) (iI_inR _)) kc_X6_lay rfl kl_L_53 dL_law_421 rfl rfl ⟨by decide, by decide⟩ (Nat.le_of_ble_eq_true rfl) (fun r M' hp => ?_)
  obtain ⟨u, rfl, hu⟩ := hp
  obtain ⟨e, hR2⟩ := hR.lay hv hu
  exact L_same C e dL_law_424 (by decide) (kk _ _ hR2)
set_option maxHeartbeats 1000000 in
theorem law_lift {E : lEnv} (C : LX E) {i : Int} {S M : jMem} (h0 : 0 ≤ i) (h6 : i + 6 ≤ (eL E : Int)) (hR : REL S M) (kk : ∀ S' M', REL S' M' → LJ E 816 (lvL E i) [] S' M') : LJ E 429 (lvL E i) [] S M := by
  refine L_aload_n C 1 dL_law_429 rfl ?_
  refine L_arg C (k := 1) h0 (by omega) (by omega) dL_law_430 dL_law_431 dL_law_432 dL_law_433 dL_law_434 ?_
  refine L_callC C (As := [.int (iI (xz E (i + 1)))]) (rest := []) (c_lift (G := eG E) ⟨rfl, rfl⟩ S (xz E (i + 1)) hR.ck hR.2.2.2.2.1.2.2.1 (iI_inR _)) kc_X5_lift rfl kl_L_54 dL_law_435 rfl rfl ⟨by decide, by decide⟩ (Nat.le_of_ble_eq_true rfl) (fun r S' hp => ?_)
  obtain ⟨v, rfl, hv⟩ := hp
  refine L_aload_n C 2 dL_law_438 rfl ?_
  refine L_arg C (k := 1) h0 (by omega) (by omega) dL_law_439 dL_law_440 dL_law_441 dL_law_442 dL_law_443 ?_
  refine L_callM C (As := [.int (iI (xz E (i + 1)))]) (rest := [.int (iI v)]) (m_lift (G := eK E) ⟨rfl, rfl⟩ M (xz E (i + 1)) hR.2.1 hR.2.2.2.2.1.1 (iI_inR _)) kc_X6_lift rfl kl_L_57 dL_law_444 rfl rfl ⟨by decide, by decide⟩ (Nat.le_of_ble_eq_true rfl) (fun r M' hp => ?_)
  obtain ⟨u, rfl, hu⟩ := hp
  obtain ⟨e, hR2⟩ := hR.lift hv hu
  exact L_same C e dL_law_447 (by decide) (kk _ _ hR2)
set_option maxHeartbeats 1000000 in
theorem law_place {E : lEnv} (C : LX E) {i : Int} {S M : jMem} (h0 : 0 ≤ i) (h6 : i + 6 ≤ (eL E : Int)) (hR : REL S M) (kk : ∀ S' M', REL S' M' → LJ E 816 (lvL E i) [] S' M') : LJ E 452 (lvL E i) [] S M := by
  refine L_aload_n C 1 dL_law_452 rfl ?_
  refine L_arg C (k := 1) h0 (by omega) (by omega) dL_law_453 dL_law_454 dL_law_455 dL_law_456 dL_law_457 ?_
  refine L_arg C (k := 2) h0 (by omega) (by omega) dL_law_458 dL_law_459 dL_law_460 dL_law_461 dL_law_462 ?_
  refine L_callC C (As := [.int (iI (xz E (i + 1))), .int (iI (xz E (i + 2)))]) (rest := []) (c_place (G := eG E) ⟨rfl, rfl⟩ S (xz E (i + 1)) (xz E (i + 2)) hR.ck hR.2.2.2.2.1.2.2.1 (iI_inR _) (iI_inR _)) kc_X5_place rfl kl_L_58 dL_law_463 rfl rfl ⟨by decide, by decide⟩ (Nat.le_of_ble_eq_true rfl) (fun r S' hp => ?_)
  obtain ⟨v, rfl, hv⟩ := hp
  refine L_aload_n C 2 dL_law_466 rfl ?_
  refine L_arg C (k := 1) h0 (by omega) (by omega) dL_law_467 dL_law_468 dL_law_469 dL_law_470 dL_law_471 ?_
  refine L_arg C (k := 2) h0 (by omega) (by omega) dL_law_472 dL_law_473 dL_law_474 dL_law_475 dL_law_476 ?_
  refine L_callM C (As := [.int (iI (xz E (i + 1))), .int (iI (xz E (i + 2)))]) (rest := [.int (iI v)]) (m_place (G := eK E) ⟨rfl, rfl⟩ M (xz E (i + 1)) (xz E (i + 2)) hR.2.1 hR.2.2.2.2.1.1 (iI_inR _) (iI_inR _)) kc_X6_place rfl kl_L_61 dL_law_477 rfl rfl ⟨by decide, by decide⟩ (Nat.le_of_ble_eq_true rfl) (fun r M' hp => ?_)
  obtain ⟨u, rfl, hu⟩ := hp
  obtain ⟨e1, rfl⟩ := hv
  obtain ⟨e2, rfl⟩ := hu
  have e : v = u := by
    rw [← e1, ← e2]
    exact hR.place
  have hR2 := hR
  exact L_same C e dL_law_480 (by decide) (kk _ _ hR2)
set_option maxHeartbeats 1000000 in
theorem law_overlaps {E : lEnv} (C : LX E) {i : Int} {S M : jMem} (h0 : 0 ≤ i) (h6 : i + 6 ≤ (eL E : Int)) (hR : REL S M) (kk : ∀ S' M', REL S' M' → LJ E 816 (lvL E i) [] S' M') : LJ E 485 (lvL E i) [] S M := by
  refine L_aload_n C 1 dL_law_485 rfl ?_
  refine L_callC C (As := []) (rest := []) (c_overlaps (G := eG E) ⟨rfl, rfl⟩ S hR.2.2.2.2.1.2.2.1) kc_X5_overlaps rfl kl_L_62 dL_law_486 rfl rfl ⟨by decide, by decide⟩ (Nat.le_of_ble_eq_true rfl) (fun r S' hp => ?_)
  obtain ⟨v, rfl, hv⟩ := hp
  refine L_aload_n C 2 dL_law_489 rfl ?_
  refine L_callM C (As := []) (rest := [.int (iI v)]) (m_overlaps (G := eK E) ⟨rfl, rfl⟩ M hR.2.1 hR.2.2.2.2.1.1) kc_X6_overlaps rfl kl_L_65 dL_law_490 rfl rfl ⟨by decide, by decide⟩ (Nat.le_of_ble_eq_true rfl) (fun r M' hp => ?_)
  obtain ⟨u, rfl, hu⟩ := hp
  obtain ⟨e1, rfl⟩ := hv
  obtain ⟨e2, rfl⟩ := hu
  have e : v = u := by
    rw [← e1, ← e2]
    exact hR.2.2.2.2.1.ovl hR.2.1.1
  have hR2 := hR
  exact L_same C e dL_law_493 (by decide) (kk _ _ hR2)
set_option maxHeartbeats 1000000 in
theorem law_relative {E : lEnv} (C : LX E) {i : Int} {S M : jMem} (h0 : 0 ≤ i) (h6 : i + 6 ≤ (eL E : Int)) (hR : REL S M) (kk : ∀ S' M', REL S' M' → LJ E 816 (lvL E i) [] S' M') : LJ E 498 (lvL E i) [] S M := by
  refine L_aload_n C 1 dL_law_498 rfl ?_
  refine L_arg C (k := 1) h0 (by omega) (by omega) dL_law_499 dL_law_500 dL_law_501 dL_law_502 dL_law_503 ?_
  refine L_arg C (k := 2) h0 (by omega) (by omega) dL_law_504 dL_law_505 dL_law_506 dL_law_507 dL_law_508 ?_
  refine L_callC C (As := [.int (iI (xz E (i + 1))), .int (iI (xz E (i + 2)))]) (rest := []) (c_relative (G := eG E) ⟨rfl, rfl⟩ S (xz E (i + 1)) (xz E (i + 2)) hR.ck hR.2.2.2.2.1.2.2.1 (iI_inR _) (iI_inR _)) kc_X5_relative rfl kl_L_66 dL_law_509 rfl rfl ⟨by decide, by decide⟩ (Nat.le_of_ble_eq_true rfl) (fun r S' hp => ?_)
  obtain ⟨v, rfl, hv⟩ := hp
  refine L_aload_n C 2 dL_law_512 rfl ?_
  refine L_arg C (k := 1) h0 (by omega) (by omega) dL_law_513 dL_law_514 dL_law_515 dL_law_516 dL_law_517 ?_
  refine L_arg C (k := 2) h0 (by omega) (by omega) dL_law_518 dL_law_519 dL_law_520 dL_law_521 dL_law_522 ?_
  refine L_callM C (As := [.int (iI (xz E (i + 1))), .int (iI (xz E (i + 2)))]) (rest := [.int (iI v)]) (m_relative (G := eK E) ⟨rfl, rfl⟩ M (xz E (i + 1)) (xz E (i + 2)) hR.2.1 hR.2.2.2.2.1.1 (iI_inR _) (iI_inR _)) kc_X6_relative rfl kl_L_69 dL_law_523 rfl rfl ⟨by decide, by decide⟩ (Nat.le_of_ble_eq_true rfl) (fun r M' hp => ?_)
  obtain ⟨u, rfl, hu⟩ := hp
  obtain ⟨e1, rfl⟩ := hv
  obtain ⟨e2, rfl⟩ := hu
  have e : v = u := by
    rw [← e1, ← e2]
    exact hR.relative
  have hR2 := hR
  exact L_same C e dL_law_526 (by decide) (kk _ _ hR2)
set_option maxHeartbeats 1000000 in
theorem law_support {E : lEnv} (C : LX E) {i : Int} {S M : jMem} (h0 : 0 ≤ i) (h6 : i + 6 ≤ (eL E : Int)) (hR : REL S M) (kk : ∀ S' M', REL S' M' → LJ E 816 (lvL E i) [] S' M') : LJ E 531 (lvL E i) [] S M := by
  refine L_aload_n C 1 dL_law_531 rfl ?_
  refine L_arg C (k := 1) h0 (by omega) (by omega) dL_law_532 dL_law_533 dL_law_534 dL_law_535 dL_law_536 ?_
  refine L_callC C (As := [.int (iI (xz E (i + 1)))]) (rest := []) (c_support (G := eG E) ⟨rfl, rfl⟩ S (xz E (i + 1)) hR.ck hR.2.2.2.2.1.2.2.1 (iI_inR _)) kc_X5_support rfl kl_L_70 dL_law_537 rfl rfl ⟨by decide, by decide⟩ (Nat.le_of_ble_eq_true rfl) (fun r S' hp => ?_)
  obtain ⟨v, rfl, hv⟩ := hp
  refine L_aload_n C 2 dL_law_540 rfl ?_
  refine L_arg C (k := 1) h0 (by omega) (by omega) dL_law_541 dL_law_542 dL_law_543 dL_law_544 dL_law_545 ?_
  refine L_callM C (As := [.int (iI (xz E (i + 1)))]) (rest := [.int (iI v)]) (m_support (G := eK E) ⟨rfl, rfl⟩ M (xz E (i + 1)) hR.2.1 hR.2.2.2.2.1.1 (iI_inR _)) kc_X6_support rfl kl_L_73 dL_law_546 rfl rfl ⟨by decide, by decide⟩ (Nat.le_of_ble_eq_true rfl) (fun r M' hp => ?_)
  obtain ⟨u, rfl, hu⟩ := hp
  obtain ⟨e1, rfl⟩ := hv
  obtain ⟨e2, rfl⟩ := hu
  have e : v = u := by
    rw [← e1, ← e2]
    exact hR.support
  have hR2 := hR
  exact L_same C e dL_law_549 (by decide) (kk _ _ hR2)
set_option maxHeartbeats 1000000 in
theorem law_centre {E : lEnv} (C : LX E) {i : Int} {S M : jMem} (h0 : 0 ≤ i) (h6 : i + 6 ≤ (eL E : Int)) (hR : REL S M) (kk : ∀ S' M', REL S' M' → LJ E 816 (lvL E i) [] S' M') : LJ E 554 (lvL E i) [] S M := by
  refine L_aload_n C 1 dL_law_554 rfl ?_
  refine L_arg C (k := 1) h0 (by omega) (by omega) dL_law_555 dL_law_556 dL_law_557 dL_law_558 dL_law_559 ?_
  refine L_arg C (k := 2) h0 (by omega) (by omega) dL_law_560 dL_law_561 dL_law_562 dL_law_563 dL_law_564 ?_
  refine L_callC C (As := [.int (iI (xz E (i + 1))), .int (iI (xz E (i + 2)))]) (rest := []) (c_centre (G := eG E) ⟨rfl, rfl⟩ S (xz E (i + 1)) (xz E (i + 2)) hR.ck hR.2.2.2.2.1.2.2.1 (iI_inR _) (iI_inR _)) kc_X5_centre rfl kl_L_74 dL_law_565 rfl rfl ⟨by decide, by decide⟩ (Nat.le_of_ble_eq_true rfl) (fun r S' hp => ?_)
  obtain ⟨v, rfl, hv⟩ := hp
  refine L_aload_n C 2 dL_law_568 rfl ?_
  refine L_arg C (k := 1) h0 (by omega) (by omega) dL_law_569 dL_law_570 dL_law_571 dL_law_572 dL_law_573 ?_
  refine L_arg C (k := 2) h0 (by omega) (by omega) dL_law_574 dL_law_575 dL_law_576 dL_law_577 dL_law_578 ?_
  refine L_callM C (As := [.int (iI (xz E (i + 1))), .int (iI (xz E (i + 2)))]) (rest := [.int (iI v)]) (m_centre (G := eK E) ⟨rfl, rfl⟩ M (xz E (i + 1)) (xz E (i + 2)) hR.2.1 hR.2.2.2.2.1.1 (iI_inR _) (iI_inR _)) kc_X6_centre rfl kl_L_77 dL_law_579 rfl rfl ⟨by decide, by decide⟩ (Nat.le_of_ble_eq_true rfl) (fun r M' hp => ?_)
  obtain ⟨u, rfl, hu⟩ := hp
  obtain ⟨e1, rfl⟩ := hv
  obtain ⟨e2, rfl⟩ := hu
  have e : v = u := by
    rw [← e1, ← e2]
    exact hR.centre
  have hR2 := hR
  exact L_same C e dL_law_582 (by decide) (kk _ _ hR2)
set_option maxHeartbeats 1000000 in
theorem law_tree {E : lEnv} (C : LX E) {i : Int} {S M : jMem} (h0 : 0 ≤ i) (h6 : i + 6 ≤ (eL E : Int)) (hR : REL S M) (kk : ∀ S' M', REL S' M' → LJ E 816 (lvL E i) [] S' M') : LJ E 587 (lvL E i) [] S M := by
  refine L_aload_n C 1 dL_law_587 rfl ?_
  refine L_callC C (As := []) (rest := []) (c_tree (G := eG E) ⟨rfl, rfl⟩ S hR.2.2.2.2.1.2.2.1 hR.cso) kc_X5_tree rfl kl_L_78 dL_law_588 rfl rfl ⟨by decide, by decide⟩ (Nat.le_of_ble_eq_true rfl) (fun r S' hp => ?_)
  obtain ⟨v, rfl, hv⟩ := hp
  refine L_aload_n C 2 dL_law_591 rfl ?_
  refine L_callM C (As := []) (rest := [.int (iI v)]) (m_tree (G := eK E) ⟨rfl, rfl⟩ M (S 18 4) hR.2.1 hR.2.2.2.2.1.1 hR.2.2.2.2.1.2.1 hR.2.2.2.2.1.2.2.2.1) kc_X6_tree rfl kl_L_81 dL_law_592 rfl rfl ⟨by decide, by decide⟩ (Nat.le_of_ble_eq_true rfl) (fun r M' hp => ?_)
  obtain ⟨u, rfl, hu⟩ := hp
  obtain ⟨e, hR2⟩ := hR.tree hv hu
  exact L_same C e dL_law_595 (by decide) (kk _ _ hR2)
set_option maxHeartbeats 1000000 in
theorem law_node {E : lEnv} (C : LX E) {i : Int} {S M : jMem} (h0 : 0 ≤ i) (h6 : i + 6 ≤ (eL E : Int)) (hR : REL S M) (kk : ∀ S' M', REL S' M' → LJ E 816 (lvL E i) [] S' M') : LJ E 600 (lvL E i) [] S M := by
  refine L_aload_n C 1 dL_law_600 rfl ?_
  refine L_arg C (k := 1) h0 (by omega) (by omega) dL_law_601 dL_law_602 dL_law_603 dL_law_604 dL_law_605 ?_
  refine L_arg C (k := 2) h0 (by omega) (by omega) dL_law_606 dL_law_607 dL_law_608 dL_law_609 dL_law_610 ?_
  refine L_callC C (As := [.int (iI (xz E (i + 1))), .int (iI (xz E (i + 2)))]) (rest := []) (c_node (G := eG E) ⟨rfl, rfl⟩ S (xz E (i + 1)) (xz E (i + 2)) hR.2.2.2.2.1.2.2.1 hR.cso (iI_inR _) (iI_inR _)) kc_X5_node rfl kl_L_82 dL_law_611 rfl rfl ⟨by decide, by decide⟩ (Nat.le_of_ble_eq_true rfl) (fun r S' hp => ?_)
  obtain ⟨v, rfl, hv⟩ := hp
  refine L_aload_n C 2 dL_law_614 rfl ?_
  refine L_arg C (k := 1) h0 (by omega) (by omega) dL_law_615 dL_law_616 dL_law_617 dL_law_618 dL_law_619 ?_
  refine L_arg C (k := 2) h0 (by omega) (by omega) dL_law_620 dL_law_621 dL_law_622 dL_law_623 dL_law_624 ?_
  refine L_callM C (As := [.int (iI (xz E (i + 1))), .int (iI (xz E (i + 2)))]) (rest := [.int (iI v)]) (m_node (G := eK E) ⟨rfl, rfl⟩ M (S 18 4) (xz E (i + 1)) (xz E (i + 2)) hR.2.1 hR.2.2.2.2.1.1 hR.2.2.2.2.1.2.1 hR.2.2.2.2.1.2.2.2.1 (iI_inR _) (iI_inR _)) kc_X6_node rfl kl_L_85 dL_law_625 rfl rfl ⟨by decide, by decide⟩ (Nat.le_of_ble_eq_true rfl) (fun r M' hp => ?_)
  obtain ⟨u, rfl, hu⟩ := hp
  obtain ⟨e, hR2⟩ := hR.node hv hu
  exact L_same C e dL_law_628 (by decide) (kk _ _ hR2)
set_option maxHeartbeats 1000000 in
theorem law_dual {E : lEnv} (C : LX E) {i : Int} {S M : jMem} (h0 : 0 ≤ i) (h6 : i + 6 ≤ (eL E : Int)) (hR : REL S M) (kk : ∀ S' M', REL S' M' → LJ E 816 (lvL E i) [] S' M') : LJ E 633 (lvL E i) [] S M := by
  refine L_aload_n C 1 dL_law_633 rfl ?_
  refine L_arg C (k := 1) h0 (by omega) (by omega) dL_law_634 dL_law_635 dL_law_636 dL_law_637 dL_law_638 ?_
  refine L_arg C (k := 2) h0 (by omega) (by omega) dL_law_639 dL_law_640 dL_law_641 dL_law_642 dL_law_643 ?_
  refine L_arg C (k := 3) h0 (by omega) (by omega) dL_law_644 dL_law_645 dL_law_646 dL_law_647 dL_law_648 ?_
  refine L_callC C (As := [.int (iI (xz E (i + 1))), .int (iI (xz E (i + 2))), .int (iI (xz E (i + 3)))]) (rest := []) (c_dual (G := eG E) ⟨rfl, rfl⟩ S (xz E (i + 1)) (xz E (i + 2)) (xz E (i + 3)) hR.ck (iI_inR _) (iI_inR _) (iI_inR _)) kc_X5_dual rfl kl_L_86 dL_law_649 rfl rfl ⟨by decide, by decide⟩ (Nat.le_of_ble_eq_true rfl) (fun r S' hp => ?_)
  obtain ⟨v, rfl, hv⟩ := hp
  refine L_aload_n C 2 dL_law_652 rfl ?_
  refine L_arg C (k := 1) h0 (by omega) (by omega) dL_law_653 dL_law_654 dL_law_655 dL_law_656 dL_law_657 ?_
  refine L_arg C (k := 2) h0 (by omega) (by omega) dL_law_658 dL_law_659 dL_law_660 dL_law_661 dL_law_662 ?_
  refine L_arg C (k := 3) h0 (by omega) (by omega) dL_law_663 dL_law_664 dL_law_665 dL_law_666 dL_law_667 ?_
  refine L_callM C (As := [.int (iI (xz E (i + 1))), .int (iI (xz E (i + 2))), .int (iI (xz E (i + 3)))]) (rest := [.int (iI v)]) (m_dual (G := eK E) ⟨rfl, rfl⟩ M (xz E (i + 1)) (xz E (i + 2)) (xz E (i + 3)) hR.2.1 (iI_inR _) (iI_inR _) (iI_inR _)) kc_X6_dual rfl kl_L_89 dL_law_668 rfl rfl ⟨by decide, by decide⟩ (Nat.le_of_ble_eq_true rfl) (fun r M' hp => ?_)
  obtain ⟨u, rfl, hu⟩ := hp
  obtain ⟨e1, rfl⟩ := hv
  obtain ⟨e2, rfl⟩ := hu
  have e : v = u := by
    rw [← e1, ← e2]
    exact (by rw [hR.1.2.1])
  have hR2 := hR
  exact L_same C e dL_law_671 (by decide) (kk _ _ hR2)
set_option maxHeartbeats 1000000 in
theorem law_need {E : lEnv} (C : LX E) {i : Int} {S M : jMem} (h0 : 0 ≤ i) (h6 : i + 6 ≤ (eL E : Int)) (hR : REL S M) (kk : ∀ S' M', REL S' M' → LJ E 816 (lvL E i) [] S' M') : LJ E 676 (lvL E i) [] S M := by
  refine L_aload_n C 1 dL_law_676 rfl ?_
  refine L_arg C (k := 1) h0 (by omega) (by omega) dL_law_677 dL_law_678 dL_law_679 dL_law_680 dL_law_681 ?_
  refine L_arg C (k := 2) h0 (by omega) (by omega) dL_law_682 dL_law_683 dL_law_684 dL_law_685 dL_law_686 ?_
  refine L_arg C (k := 3) h0 (by omega) (by omega) dL_law_687 dL_law_688 dL_law_689 dL_law_690 dL_law_691 ?_
  refine L_arg C (k := 4) h0 (by omega) (by omega) dL_law_692 dL_law_693 dL_law_694 dL_law_695 dL_law_696 ?_
  refine L_callC C (As := [.int (iI (xz E (i + 1))), .int (iI (xz E (i + 2))), .int (iI (xz E (i + 3))), .int (iI (xz E (i + 4)))]) (rest := []) (c_need (G := eG E) ⟨rfl, rfl⟩ S (xz E (i + 1)) (xz E (i + 2)) (xz E (i + 3)) (xz E (i + 4)) hR.ck (iI_inR _) (iI_inR _) (iI_inR _) (iI_inR _) hR.2.2.2.2.2.1) kc_X5_need rfl kl_L_90 dL_law_697 rfl rfl ⟨by decide, by decide⟩ (Nat.le_of_ble_eq_true rfl) (fun r S' hp => ?_)
  obtain ⟨v, rfl, hv⟩ := hp
  refine L_aload_n C 2 dL_law_700 rfl ?_
  refine L_arg C (k := 1) h0 (by omega) (by omega) dL_law_701 dL_law_702 dL_law_703 dL_law_704 dL_law_705 ?_
  refine L_arg C (k := 2) h0 (by omega) (by omega) dL_law_706 dL_law_707 dL_law_708 dL_law_709 dL_law_710 ?_
  refine L_arg C (k := 3) h0 (by omega) (by omega) dL_law_711 dL_law_712 dL_law_713 dL_law_714 dL_law_715 ?_
  refine L_arg C (k := 4) h0 (by omega) (by omega) dL_law_716 dL_law_717 dL_law_718 dL_law_719 dL_law_720 ?_
  refine L_callM C (As := [.int (iI (xz E (i + 1))), .int (iI (xz E (i + 2))), .int (iI (xz E (i + 3))), .int (iI (xz E (i + 4)))]) (rest := [.long (iL v)]) (m_need (G := eK E) ⟨rfl, rfl⟩ M (xz E (i + 1)) (xz E (i + 2)) (xz E (i + 3)) (xz E (i + 4)) hR.2.1 (iI_inR _) (iI_inR _) (iI_inR _) (iI_inR _)) kc_X6_need rfl kl_L_94 dL_law_721 rfl rfl ⟨by decide, by decide⟩ (Nat.le_of_ble_eq_true rfl) (fun r M' hp => ?_)
  obtain ⟨u, rfl, hu⟩ := hp
  obtain ⟨e, hR2⟩ := hR.need hv hu
  exact L_lsame C e dL_law_724 dL_law_725 (by decide) (kk _ _ hR2)
set_option maxHeartbeats 1000000 in
theorem law_proof {E : lEnv} (C : LX E) {i : Int} {S M : jMem} (h0 : 0 ≤ i) (h6 : i + 6 ≤ (eL E : Int)) (hR : REL S M) (kk : ∀ S' M', REL S' M' → LJ E 816 (lvL E i) [] S' M') : LJ E 730 (lvL E i) [] S M := by
  refine L_aload_n C 1 dL_law_730 rfl ?_
  refine L_arg C (k := 1) h0 (by omega) (by omega) dL_law_731 dL_law_732 dL_law_733 dL_law_734 dL_law_735 ?_
  refine L_callC C (As := [.int (iI (xz E (i + 1)))]) (rest := []) (c_proof (G := eG E) ⟨rfl, rfl⟩ S (xz E (i + 1)) hR.ck (iI_inR _) hR.2.2.2.2.2.1 hR.2.2.2.2.2.2.1) kc_X5_proof rfl kl_L_95 dL_law_736 rfl rfl ⟨by decide, by decide⟩ (Nat.le_of_ble_eq_true rfl) (fun r S' hp => ?_)
  obtain ⟨v, rfl, hv⟩ := hp
  refine L_aload_n C 2 dL_law_739 rfl ?_
  refine L_arg C (k := 1) h0 (by omega) (by omega) dL_law_740 dL_law_741 dL_law_742 dL_law_743 dL_law_744 ?_
  refine L_callM C (As := [.int (iI (xz E (i + 1)))]) (rest := [.int (iI v)]) (m_proof (G := eK E) ⟨rfl, rfl⟩ M (xz E (i + 1)) hR.2.1 (iI_inR _) hR.2.2.2.2.2.2.2) kc_X6_proof rfl kl_L_98 dL_law_745 rfl rfl ⟨by decide, by decide⟩ (Nat.le_of_ble_eq_true rfl) (fun r M' hp => ?_)
  obtain ⟨u, rfl, hu⟩ := hp
  obtain ⟨e, hR2⟩ := hR.proof hv hu
  exact L_same C e dL_law_748 (by decide) (kk _ _ hR2)
set_option maxHeartbeats 1000000 in
theorem law_none {E : lEnv} (C : LX E) {i : Int} {S M : jMem} (h0 : 0 ≤ i) (h6 : i + 6 ≤ (eL E : Int)) (hR : REL S M) (kk : ∀ S' M', REL S' M' → LJ E 816 (lvL E i) [] S' M') : LJ E 753 (lvL E i) [] S M := by
  refine L_aload_n C 1 dL_law_753 rfl ?_
  refine L_arg C (k := 1) h0 (by omega) (by omega) dL_law_754 dL_law_755 dL_law_756 dL_law_757 dL_law_758 ?_
  refine L_arg C (k := 2) h0 (by omega) (by omega) dL_law_759 dL_law_760 dL_law_761 dL_law_762 dL_law_763 ?_
  refine L_arg C (k := 3) h0 (by omega) (by omega) dL_law_764 dL_law_765 dL_law_766 dL_law_767 dL_law_768 ?_
  refine L_arg C (k := 4) h0 (by omega) (by omega) dL_law_769 dL_law_770 dL_law_771 dL_law_772 dL_law_773 ?_
  refine L_arg C (k := 5) h0 (by omega) (by omega) dL_law_774 dL_law_775 dL_law_776 dL_law_777 dL_law_778 ?_
  refine L_callC C (As := [.int (iI (xz E (i + 1))), .int (iI (xz E (i + 2))), .int (iI (xz E (i + 3))), .int (iI (xz E (i + 4))), .int (iI (xz E (i + 5)))]) (rest := []) (c_none (G := eG E) ⟨rfl, rfl⟩ S (xz E (i + 1)) (xz E (i + 2)) (xz E (i + 3)) (xz E (i + 4)) (xz E (i + 5)) hR.ck (iI_inR _) (iI_inR _) (iI_inR _) (iI_inR _) (iI_inR _)) kc_X5_none rfl kl_L_99 dL_law_779 rfl rfl ⟨by decide, by decide⟩ (Nat.le_of_ble_eq_true rfl) (fun r S' hp => ?_)
  obtain ⟨v, rfl, hv⟩ := hp
  refine L_aload_n C 2 dL_law_782 rfl ?_
  refine L_arg C (k := 1) h0 (by omega) (by omega) dL_law_783 dL_law_784 dL_law_785 dL_law_786 dL_law_787 ?_
  refine L_arg C (k := 2) h0 (by omega) (by omega) dL_law_788 dL_law_789 dL_law_790 dL_law_791 dL_law_792 ?_
  refine L_arg C (k := 3) h0 (by omega) (by omega) dL_law_793 dL_law_794 dL_law_795 dL_law_796 dL_law_797 ?_
  refine L_arg C (k := 4) h0 (by omega) (by omega) dL_law_798 dL_law_799 dL_law_800 dL_law_801 dL_law_802 ?_
  refine L_arg C (k := 5) h0 (by omega) (by omega) dL_law_803 dL_law_804 dL_law_805 dL_law_806 dL_law_807 ?_
  refine L_callM C (As := [.int (iI (xz E (i + 1))), .int (iI (xz E (i + 2))), .int (iI (xz E (i + 3))), .int (iI (xz E (i + 4))), .int (iI (xz E (i + 5)))]) (rest := [.int (iI v)]) (m_none (G := eK E) ⟨rfl, rfl⟩ M (xz E (i + 1)) (xz E (i + 2)) (xz E (i + 3)) (xz E (i + 4)) (xz E (i + 5)) hR.2.1 (iI_inR _) (iI_inR _) (iI_inR _) (iI_inR _) (iI_inR _)) kc_X6_none rfl kl_L_102 dL_law_808 rfl rfl ⟨by decide, by decide⟩ (Nat.le_of_ble_eq_true rfl) (fun r M' hp => ?_)
  obtain ⟨u, rfl, hu⟩ := hp
  obtain ⟨e1, rfl⟩ := hv
  obtain ⟨e2, rfl⟩ := hu
  have e : v = u := by
    rw [← e1, ← e2]
    exact (by rw [hR.1.1, hR.1.2.1, hR.1.2.2.1, hR.1.2.2.2.1])
  have hR2 := hR
  exact L_same C e dL_law_811 (by decide) (kk _ _ hR2)
