theorem lc_0 {E : XC} {nm : String} {b L cl sl I : Nat} {xs : Nat → Int32} {phc phm : Nat → Nat} {c m : StA} (O : ON E R_law cL_law 4 room_1 nm) (X : LE E b L xs) (hL : L ≤ 320) (hI : I + 5 ≤ L) (hc : cl ≤ room_1.cells ∧ sl ≤ room_1.slots) (hpc : ∀ k, 100 ≤ k → phc k = E.2.2.1 k) (hpm : ∀ k, 100 ≤ k → phm k = E.2.2.1 k) (hR : R0 c m) (K : ∀ c' m', R0 c' m' → WN E 4 1474 cl sl [(3, .int (nI I)), (2, .ref (phm 0)), (1, .ref (phc 0)), (0, .ref b)] [] (wld cM phc E.2.2.2.1 c' ++ wld mM phm E.2.2.2.1 m')) : WN E 4 216 cl sl [(3, .int (nI I)), (2, .ref (phm 0)), (1, .ref (phc 0)), (0, .ref b)] [] (wld cM phc E.2.2.2.1 c ++ wld mM phm E.2.2.2.1 m) := by
  obtain ⟨c', r, m', r', e1, e2, hr, hR'⟩ := sim_feed (xs (I + 1)) hR
  subst hr
  refine n_aload_n O 2 dL_law_216 rfl rfl ?_
  refine n_arg (jn := 1) (I := I) O X 3 0 dL_law_217 dL_law_218 dL_law_219 dL_law_220 dL_law_221 rfl rfl (by decide) (by omega) hL ?_
  refine n_swap ?_
  refine n_VI (k := 0) (As := [.int (xs (I + 1))]) (st := []) O hpc lk_L_13 (k_X5_feed e1) rfl cs_0 rfl rfl ⟨rfl, rfl⟩ (by decide +kernel) rfl (Nat.le_of_ble_eq_true rfl) hc dL_law_222 ?_
  refine n_swap ?_
  refine n_aload_n O 1 dL_law_225 rfl rfl ?_
  refine n_arg (jn := 1) (I := I) O X 3 0 dL_law_226 dL_law_227 dL_law_228 dL_law_229 dL_law_230 rfl rfl (by decide) (by omega) hL ?_
  refine n_VI (k := 0) (As := [.int (xs (I + 1))]) (st := [.int r]) O hpm lk_L_17 (k_X6_feed e2) rfl ms_0 rfl rfl ⟨rfl, rfl⟩ (by decide +kernel) rfl (Nat.le_of_ble_eq_true rfl) hc dL_law_231 ?_
  exact n_eqT (tgt := 1474) O dL_law_234 (by decide) (K c' m' hR')
theorem lc_1 {E : XC} {nm : String} {b L cl sl I : Nat} {xs : Nat → Int32} {phc phm : Nat → Nat} {c m : StA} (O : ON E R_law cL_law 4 room_1 nm) (X : LE E b L xs) (hL : L ≤ 320) (hI : I + 5 ≤ L) (hc : cl ≤ room_1.cells ∧ sl ≤ room_1.slots) (hpc : ∀ k, 100 ≤ k → phc k = E.2.2.1 k) (hpm : ∀ k, 100 ≤ k → phm k = E.2.2.1 k) (hR : R0 c m) (K : ∀ c' m', R0 c' m' → WN E 4 1474 cl sl [(3, .int (nI I)), (2, .ref (phm 0)), (1, .ref (phc 0)), (0, .ref b)] [] (wld cM phc E.2.2.2.1 c' ++ wld mM phm E.2.2.2.1 m')) : WN E 4 239 cl sl [(3, .int (nI I)), (2, .ref (phm 0)), (1, .ref (phc 0)), (0, .ref b)] [] (wld cM phc E.2.2.2.1 c ++ wld mM phm E.2.2.2.1 m) := by
  obtain ⟨c', r, m', r', e1, e2, hr, hR'⟩ := sim_end (xs (I + 1)) hR
  subst hr
  refine n_aload_n O 2 dL_law_239 rfl rfl ?_
  refine n_arg (jn := 1) (I := I) O X 3 0 dL_law_240 dL_law_241 dL_law_242 dL_law_243 dL_law_244 rfl rfl (by decide) (by omega) hL ?_
  refine n_swap ?_
  refine n_VI (k := 0) (As := [.int (xs (I + 1))]) (st := []) O hpc lk_L_18 (k_X5_end e1) rfl cs_0 rfl rfl ⟨rfl, rfl⟩ (by decide +kernel) rfl (Nat.le_of_ble_eq_true rfl) hc dL_law_245 ?_
  refine n_swap ?_
  refine n_aload_n O 1 dL_law_248 rfl rfl ?_
  refine n_arg (jn := 1) (I := I) O X 3 0 dL_law_249 dL_law_250 dL_law_251 dL_law_252 dL_law_253 rfl rfl (by decide) (by omega) hL ?_
  refine n_VI (k := 0) (As := [.int (xs (I + 1))]) (st := [.int r]) O hpm lk_L_21 (k_X6_end e2) rfl ms_0 rfl rfl ⟨rfl, rfl⟩ (by decide +kernel) rfl (Nat.le_of_ble_eq_true rfl) hc dL_law_254 ?_
  exact n_eqT (tgt := 1474) O dL_law_257 (by decide) (K c' m' hR')
theorem lc_2 {E : XC} {nm : String} {b L cl sl I : Nat} {xs : Nat → Int32} {phc phm : Nat → Nat} {c m : StA} (O : ON E R_law cL_law 4 room_1 nm) (X : LE E b L xs) (hL : L ≤ 320) (hI : I + 5 ≤ L) (hc : cl ≤ room_1.cells ∧ sl ≤ room_1.slots) (hpc : ∀ k, 100 ≤ k → phc k = E.2.2.1 k) (hpm : ∀ k, 100 ≤ k → phm k = E.2.2.1 k) (hR : R0 c m) (K : ∀ c' m', R0 c' m' → WN E 4 1474 cl sl [(3, .int (nI I)), (2, .ref (phm 0)), (1, .ref (phc 0)), (0, .ref b)] [] (wld cM phc E.2.2.2.1 c' ++ wld mM phm E.2.2.2.1 m')) : WN E 4 262 cl sl [(3, .int (nI I)), (2, .ref (phm 0)), (1, .ref (phc 0)), (0, .ref b)] [] (wld cM phc E.2.2.2.1 c ++ wld mM phm E.2.2.2.1 m) := by
  obtain ⟨c', r, m', r', e1, e2, hr, hR'⟩ := sim_text  hR
  subst hr
  refine n_aload_n O 2 dL_law_262 rfl rfl ?_
  refine n_swap ?_
  refine n_VI (k := 0) (As := []) (st := []) O hpc lk_L_22 (k_X5_text e1) rfl cs_0 rfl rfl ⟨rfl, rfl⟩ (by decide +kernel) rfl (Nat.le_of_ble_eq_true rfl) hc dL_law_263 ?_
  refine n_swap ?_
  refine n_aload_n O 1 dL_law_266 rfl rfl ?_
  refine n_VI (k := 0) (As := []) (st := [.int r]) O hpm lk_L_26 (k_X6_text e2) rfl ms_0 rfl rfl ⟨rfl, rfl⟩ (by decide +kernel) rfl (Nat.le_of_ble_eq_true rfl) hc dL_law_267 ?_
  exact n_eqT (tgt := 1474) O dL_law_270 (by decide) (K c' m' hR')
theorem lc_3 {E : XC} {nm : String} {b L cl sl I : Nat} {xs : Nat → Int32} {phc phm : Nat → Nat} {c m : StA} (O : ON E R_law cL_law 4 room_1 nm) (X : LE E b L xs) (hL : L ≤ 320) (hI : I + 5 ≤ L) (hc : cl ≤ room_1.cells ∧ sl ≤ room_1.slots) (hpc : ∀ k, 100 ≤ k → phc k = E.2.2.1 k) (hpm : ∀ k, 100 ≤ k → phm k = E.2.2.1 k) (hR : R0 c m) (K : ∀ c' m', R0 c' m' → WN E 4 1474 cl sl [(3, .int (nI I)), (2, .ref (phm 0)), (1, .ref (phc 0)), (0, .ref b)] [] (wld cM phc E.2.2.2.1 c' ++ wld mM phm E.2.2.2.1 m')) : WN E 4 275 cl sl [(3, .int (nI I)), (2, .ref (phm 0)), (1, .ref (phc 0)), (0, .ref b)] [] (wld cM phc E.2.2.2.1 c ++ wld mM phm E.2.2.2.1 m) := by
  obtain ⟨c', r, m', r', e1, e2, hr, hR'⟩ := sim_fault  hR
  subst hr
  refine n_aload_n O 2 dL_law_275 rfl rfl ?_
  refine n_swap ?_
  refine n_VI (k := 0) (As := []) (st := []) O hpc lk_L_27 (k_X5_fault e1) rfl cs_0 rfl rfl ⟨rfl, rfl⟩ (by decide +kernel) rfl (Nat.le_of_ble_eq_true rfl) hc dL_law_276 ?_
  refine n_swap ?_
  refine n_aload_n O 1 dL_law_279 rfl rfl ?_
  refine n_VI (k := 0) (As := []) (st := [.int r]) O hpm lk_L_30 (k_X6_fault e2) rfl ms_0 rfl rfl ⟨rfl, rfl⟩ (by decide +kernel) rfl (Nat.le_of_ble_eq_true rfl) hc dL_law_280 ?_
  exact n_eqT (tgt := 1474) O dL_law_283 (by decide) (K c' m' hR')
theorem lc_4 {E : XC} {nm : String} {b L cl sl I : Nat} {xs : Nat → Int32} {phc phm : Nat → Nat} {c m : StA} (O : ON E R_law cL_law 4 room_1 nm) (X : LE E b L xs) (hL : L ≤ 320) (hI : I + 5 ≤ L) (hc : cl ≤ room_1.cells ∧ sl ≤ room_1.slots) (hpc : ∀ k, 100 ≤ k → phc k = E.2.2.1 k) (hpm : ∀ k, 100 ≤ k → phm k = E.2.2.1 k) (hR : R0 c m) (K : ∀ c' m', R0 c' m' → WN E 4 1474 cl sl [(3, .int (nI I)), (2, .ref (phm 0)), (1, .ref (phc 0)), (0, .ref b)] [] (wld cM phc E.2.2.2.1 c' ++ wld mM phm E.2.2.2.1 m')) : WN E 4 288 cl sl [(3, .int (nI I)), (2, .ref (phm 0)), (1, .ref (phc 0)), (0, .ref b)] [] (wld cM phc E.2.2.2.1 c ++ wld mM phm E.2.2.2.1 m) := by
  obtain ⟨c', r, m', r', e1, e2, hr, hR'⟩ := sim_rule (xs (I + 1)) hR
  subst hr
  refine n_aload_n O 2 dL_law_288 rfl rfl ?_
  refine n_arg (jn := 1) (I := I) O X 3 0 dL_law_289 dL_law_290 dL_law_291 dL_law_292 dL_law_293 rfl rfl (by decide) (by omega) hL ?_
  refine n_swap ?_
  refine n_VI (k := 0) (As := [.int (xs (I + 1))]) (st := []) O hpc lk_L_31 (k_X5_rule e1) rfl cs_0 rfl rfl ⟨rfl, rfl⟩ (by decide +kernel) rfl (Nat.le_of_ble_eq_true rfl) hc dL_law_294 ?_
  refine n_swap ?_
  refine n_aload_n O 1 dL_law_297 rfl rfl ?_
  refine n_arg (jn := 1) (I := I) O X 3 0 dL_law_298 dL_law_299 dL_law_300 dL_law_301 dL_law_302 rfl rfl (by decide) (by omega) hL ?_
  refine n_VI (k := 0) (As := [.int (xs (I + 1))]) (st := [.int r]) O hpm lk_L_34 (k_X6_rule e2) rfl ms_0 rfl rfl ⟨rfl, rfl⟩ (by decide +kernel) rfl (Nat.le_of_ble_eq_true rfl) hc dL_law_303 ?_
  exact n_eqT (tgt := 1474) O dL_law_306 (by decide) (K c' m' hR')
theorem lc_5 {E : XC} {nm : String} {b L cl sl I : Nat} {xs : Nat → Int32} {phc phm : Nat → Nat} {c m : StA} (O : ON E R_law cL_law 4 room_1 nm) (X : LE E b L xs) (hL : L ≤ 320) (hI : I + 5 ≤ L) (hc : cl ≤ room_1.cells ∧ sl ≤ room_1.slots) (hpc : ∀ k, 100 ≤ k → phc k = E.2.2.1 k) (hpm : ∀ k, 100 ≤ k → phm k = E.2.2.1 k) (hR : R0 c m) (K : ∀ c' m', R0 c' m' → WN E 4 1474 cl sl [(3, .int (nI I)), (2, .ref (phm 0)), (1, .ref (phc 0)), (0, .ref b)] [] (wld cM phc E.2.2.2.1 c' ++ wld mM phm E.2.2.2.1 m')) : WN E 4 311 cl sl [(3, .int (nI I)), (2, .ref (phm 0)), (1, .ref (phc 0)), (0, .ref b)] [] (wld cM phc E.2.2.2.1 c ++ wld mM phm E.2.2.2.1 m) := by
  obtain ⟨c', r, m', r', e1, e2, hr, hR'⟩ := sim_thing (xs (I + 1)) (xs (I + 2)) hR
  subst hr
  refine n_aload_n O 2 dL_law_311 rfl rfl ?_
  refine n_arg (jn := 1) (I := I) O X 3 0 dL_law_312 dL_law_313 dL_law_314 dL_law_315 dL_law_316 rfl rfl (by decide) (by omega) hL ?_
  refine n_arg (jn := 2) (I := I) O X 3 0 dL_law_317 dL_law_318 dL_law_319 dL_law_320 dL_law_321 rfl rfl (by decide) (by omega) hL ?_
  refine n_swap ?_
  refine n_VI (k := 0) (As := [.int (xs (I + 1)), .int (xs (I + 2))]) (st := []) O hpc lk_L_35 (k_X5_thing e1) rfl cs_0 rfl rfl ⟨rfl, rfl⟩ (by decide +kernel) rfl (Nat.le_of_ble_eq_true rfl) hc dL_law_322 ?_
  refine n_swap ?_
  refine n_aload_n O 1 dL_law_325 rfl rfl ?_
  refine n_arg (jn := 1) (I := I) O X 3 0 dL_law_326 dL_law_327 dL_law_328 dL_law_329 dL_law_330 rfl rfl (by decide) (by omega) hL ?_
  refine n_arg (jn := 2) (I := I) O X 3 0 dL_law_331 dL_law_332 dL_law_333 dL_law_334 dL_law_335 rfl rfl (by decide) (by omega) hL ?_
  refine n_VI (k := 0) (As := [.int (xs (I + 1)), .int (xs (I + 2))]) (st := [.int r]) O hpm lk_L_39 (k_X6_thing e2) rfl ms_0 rfl rfl ⟨rfl, rfl⟩ (by decide +kernel) rfl (Nat.le_of_ble_eq_true rfl) hc dL_law_336 ?_
  exact n_eqT (tgt := 1474) O dL_law_339 (by decide) (K c' m' hR')
theorem lc_6 {E : XC} {nm : String} {b L cl sl I : Nat} {xs : Nat → Int32} {phc phm : Nat → Nat} {c m : StA} (O : ON E R_law cL_law 4 room_1 nm) (X : LE E b L xs) (hL : L ≤ 320) (hI : I + 5 ≤ L) (hc : cl ≤ room_1.cells ∧ sl ≤ room_1.slots) (hpc : ∀ k, 100 ≤ k → phc k = E.2.2.1 k) (hpm : ∀ k, 100 ≤ k → phm k = E.2.2.1 k) (hR : R0 c m) (K : ∀ c' m', R0 c' m' → WN E 4 1474 cl sl [(3, .int (nI I)), (2, .ref (phm 0)), (1, .ref (phc 0)), (0, .ref b)] [] (wld cM phc E.2.2.2.1 c' ++ wld mM phm E.2.2.2.1 m')) : WN E 4 344 cl sl [(3, .int (nI I)), (2, .ref (phm 0)), (1, .ref (phc 0)), (0, .ref b)] [] (wld cM phc E.2.2.2.1 c ++ wld mM phm E.2.2.2.1 m) := by
  obtain ⟨c', r, m', r', e1, e2, hr, hR'⟩ := sim_wind (xs (I + 1)) hR
  subst hr
  refine n_aload_n O 2 dL_law_344 rfl rfl ?_
  refine n_arg (jn := 1) (I := I) O X 3 0 dL_law_345 dL_law_346 dL_law_347 dL_law_348 dL_law_349 rfl rfl (by decide) (by omega) hL ?_
  refine n_swap ?_
  refine n_VI (k := 0) (As := [.int (xs (I + 1))]) (st := []) O hpc lk_L_40 (k_X5_wind e1) rfl cs_0 rfl rfl ⟨rfl, rfl⟩ (by decide +kernel) rfl (Nat.le_of_ble_eq_true rfl) hc dL_law_350 ?_
  refine n_swap ?_
  refine n_aload_n O 1 dL_law_353 rfl rfl ?_
  refine n_arg (jn := 1) (I := I) O X 3 0 dL_law_354 dL_law_355 dL_law_356 dL_law_357 dL_law_358 rfl rfl (by decide) (by omega) hL ?_
  refine n_VI (k := 0) (As := [.int (xs (I + 1))]) (st := [.int r]) O hpm lk_L_43 (k_X6_wind e2) rfl ms_0 rfl rfl ⟨rfl, rfl⟩ (by decide +kernel) rfl (Nat.le_of_ble_eq_true rfl) hc dL_law_359 ?_
  exact n_eqT (tgt := 1474) O dL_law_362 (by decide) (K c' m' hR')
theorem lc_7 {E : XC} {nm : String} {b L cl sl I : Nat} {xs : Nat → Int32} {phc phm : Nat → Nat} {c m : StA} (O : ON E R_law cL_law 4 room_1 nm) (X : LE E b L xs) (hL : L ≤ 320) (hI : I + 5 ≤ L) (hc : cl ≤ room_1.cells ∧ sl ≤ room_1.slots) (hpc : ∀ k, 100 ≤ k → phc k = E.2.2.1 k) (hpm : ∀ k, 100 ≤ k → phm k = E.2.2.1 k) (hR : R0 c m) (K : ∀ c' m', R0 c' m' → WN E 4 1474 cl sl [(3, .int (nI I)), (2, .ref (phm 0)), (1, .ref (phc 0)), (0, .ref b)] [] (wld cM phc E.2.2.2.1 c' ++ wld mM phm E.2.2.2.1 m')) : WN E 4 367 cl sl [(3, .int (nI I)), (2, .ref (phm 0)), (1, .ref (phc 0)), (0, .ref b)] [] (wld cM phc E.2.2.2.1 c ++ wld mM phm E.2.2.2.1 m) := by
  obtain ⟨c', r, m', r', e1, e2, hr, hR'⟩ := sim_saying (xs (I + 1)) (xs (I + 2)) hR
  subst hr
  refine n_aload_n O 2 dL_law_367 rfl rfl ?_
  refine n_arg (jn := 1) (I := I) O X 3 0 dL_law_368 dL_law_369 dL_law_370 dL_law_371 dL_law_372 rfl rfl (by decide) (by omega) hL ?_
  refine n_arg (jn := 2) (I := I) O X 3 0 dL_law_373 dL_law_374 dL_law_375 dL_law_376 dL_law_377 rfl rfl (by decide) (by omega) hL ?_
  refine n_swap ?_
  refine n_VI (k := 0) (As := [.int (xs (I + 1)), .int (xs (I + 2))]) (st := []) O hpc lk_L_44 (k_X5_saying e1) rfl cs_0 rfl rfl ⟨rfl, rfl⟩ (by decide +kernel) rfl (Nat.le_of_ble_eq_true rfl) hc dL_law_378 ?_
  refine n_swap ?_
  refine n_aload_n O 1 dL_law_381 rfl rfl ?_
  refine n_arg (jn := 1) (I := I) O X 3 0 dL_law_382 dL_law_383 dL_law_384 dL_law_385 dL_law_386 rfl rfl (by decide) (by omega) hL ?_
  refine n_arg (jn := 2) (I := I) O X 3 0 dL_law_387 dL_law_388 dL_law_389 dL_law_390 dL_law_391 rfl rfl (by decide) (by omega) hL ?_
  refine n_VI (k := 0) (As := [.int (xs (I + 1)), .int (xs (I + 2))]) (st := [.int r]) O hpm lk_L_47 (k_X6_saying e2) rfl ms_0 rfl rfl ⟨rfl, rfl⟩ (by decide +kernel) rfl (Nat.le_of_ble_eq_true rfl) hc dL_law_392 ?_
  exact n_eqT (tgt := 1474) O dL_law_395 (by decide) (K c' m' hR')
theorem lc_8 {E : XC} {nm : String} {b L cl sl I : Nat} {xs : Nat → Int32} {phc phm : Nat → Nat} {c m : StA} (O : ON E R_law cL_law 4 room_1 nm) (X : LE E b L xs) (hL : L ≤ 320) (hI : I + 5 ≤ L) (hc : cl ≤ room_1.cells ∧ sl ≤ room_1.slots) (hpc : ∀ k, 100 ≤ k → phc k = E.2.2.1 k) (hpm : ∀ k, 100 ≤ k → phm k = E.2.2.1 k) (hR : R0 c m) (K : ∀ c' m', R0 c' m' → WN E 4 1474 cl sl [(3, .int (nI I)), (2, .ref (phm 0)), (1, .ref (phc 0)), (0, .ref b)] [] (wld cM phc E.2.2.2.1 c' ++ wld mM phm E.2.2.2.1 m')) : WN E 4 400 cl sl [(3, .int (nI I)), (2, .ref (phm 0)), (1, .ref (phc 0)), (0, .ref b)] [] (wld cM phc E.2.2.2.1 c ++ wld mM phm E.2.2.2.1 m) := by
  obtain ⟨c', r, m', r', e1, e2, hr, hR'⟩ := sim_alter (xs (I + 1)) (xs (I + 2)) (xs (I + 3)) hR
  subst hr
  refine n_aload_n O 2 dL_law_400 rfl rfl ?_
  refine n_arg (jn := 1) (I := I) O X 3 0 dL_law_401 dL_law_402 dL_law_403 dL_law_404 dL_law_405 rfl rfl (by decide) (by omega) hL ?_
  refine n_arg (jn := 2) (I := I) O X 3 0 dL_law_406 dL_law_407 dL_law_408 dL_law_409 dL_law_410 rfl rfl (by decide) (by omega) hL ?_
  refine n_arg (jn := 3) (I := I) O X 3 0 dL_law_411 dL_law_412 dL_law_413 dL_law_414 dL_law_415 rfl rfl (by decide) (by omega) hL ?_
  refine n_swap ?_
  refine n_VI (k := 0) (As := [.int (xs (I + 1)), .int (xs (I + 2)), .int (xs (I + 3))]) (st := []) O hpc lk_L_48 (k_X5_alter e1) rfl cs_0 rfl rfl ⟨rfl, rfl⟩ (by decide +kernel) rfl (Nat.le_of_ble_eq_true rfl) hc dL_law_416 ?_
  refine n_swap ?_
  refine n_aload_n O 1 dL_law_419 rfl rfl ?_
  refine n_arg (jn := 1) (I := I) O X 3 0 dL_law_420 dL_law_421 dL_law_422 dL_law_423 dL_law_424 rfl rfl (by decide) (by omega) hL ?_
  refine n_arg (jn := 2) (I := I) O X 3 0 dL_law_425 dL_law_426 dL_law_427 dL_law_428 dL_law_429 rfl rfl (by decide) (by omega) hL ?_
  refine n_arg (jn := 3) (I := I) O X 3 0 dL_law_430 dL_law_431 dL_law_432 dL_law_433 dL_law_434 rfl rfl (by decide) (by omega) hL ?_
  refine n_VI (k := 0) (As := [.int (xs (I + 1)), .int (xs (I + 2)), .int (xs (I + 3))]) (st := [.int r]) O hpm lk_L_52 (k_X6_alter e2) rfl ms_0 rfl rfl ⟨rfl, rfl⟩ (by decide +kernel) rfl (Nat.le_of_ble_eq_true rfl) hc dL_law_435 ?_
  exact n_eqT (tgt := 1474) O dL_law_438 (by decide) (K c' m' hR')
theorem lc_9 {E : XC} {nm : String} {b L cl sl I : Nat} {xs : Nat → Int32} {phc phm : Nat → Nat} {c m : StA} (O : ON E R_law cL_law 4 room_1 nm) (X : LE E b L xs) (hL : L ≤ 320) (hI : I + 5 ≤ L) (hc : cl ≤ room_1.cells ∧ sl ≤ room_1.slots) (hpc : ∀ k, 100 ≤ k → phc k = E.2.2.1 k) (hpm : ∀ k, 100 ≤ k → phm k = E.2.2.1 k) (hR : R0 c m) (K : ∀ c' m', R0 c' m' → WN E 4 1474 cl sl [(3, .int (nI I)), (2, .ref (phm 0)), (1, .ref (phc 0)), (0, .ref b)] [] (wld cM phc E.2.2.2.1 c' ++ wld mM phm E.2.2.2.1 m')) : WN E 4 443 cl sl [(3, .int (nI I)), (2, .ref (phm 0)), (1, .ref (phc 0)), (0, .ref b)] [] (wld cM phc E.2.2.2.1 c ++ wld mM phm E.2.2.2.1 m) := by
  obtain ⟨c', r, m', r', e1, e2, hr, hR'⟩ := sim_blow (xs (I + 1)) (xs (I + 2)) hR
  subst hr
  refine n_aload_n O 2 dL_law_443 rfl rfl ?_
  refine n_arg (jn := 1) (I := I) O X 3 0 dL_law_444 dL_law_445 dL_law_446 dL_law_447 dL_law_448 rfl rfl (by decide) (by omega) hL ?_
  refine n_arg (jn := 2) (I := I) O X 3 0 dL_law_449 dL_law_450 dL_law_451 dL_law_452 dL_law_453 rfl rfl (by decide) (by omega) hL ?_
  refine n_swap ?_
  refine n_VI (k := 0) (As := [.int (xs (I + 1)), .int (xs (I + 2))]) (st := []) O hpc lk_L_53 (k_X5_blow e1) rfl cs_0 rfl rfl ⟨rfl, rfl⟩ (by decide +kernel) rfl (Nat.le_of_ble_eq_true rfl) hc dL_law_454 ?_
  refine n_swap ?_
  refine n_aload_n O 1 dL_law_457 rfl rfl ?_
  refine n_arg (jn := 1) (I := I) O X 3 0 dL_law_458 dL_law_459 dL_law_460 dL_law_461 dL_law_462 rfl rfl (by decide) (by omega) hL ?_
  refine n_arg (jn := 2) (I := I) O X 3 0 dL_law_463 dL_law_464 dL_law_465 dL_law_466 dL_law_467 rfl rfl (by decide) (by omega) hL ?_
  refine n_VI (k := 0) (As := [.int (xs (I + 1)), .int (xs (I + 2))]) (st := [.int r]) O hpm lk_L_56 (k_X6_blow e2) rfl ms_0 rfl rfl ⟨rfl, rfl⟩ (by decide +kernel) rfl (Nat.le_of_ble_eq_true rfl) hc dL_law_468 ?_
  exact n_eqT (tgt := 1474) O dL_law_471 (by decide) (K c' m' hR')
theorem lc_10 {E : XC} {nm : String} {b L cl sl I : Nat} {xs : Nat → Int32} {phc phm : Nat → Nat} {c m : StA} (O : ON E R_law cL_law 4 room_1 nm) (X : LE E b L xs) (hL : L ≤ 320) (hI : I + 5 ≤ L) (hc : cl ≤ room_1.cells ∧ sl ≤ room_1.slots) (hpc : ∀ k, 100 ≤ k → phc k = E.2.2.1 k) (hpm : ∀ k, 100 ≤ k → phm k = E.2.2.1 k) (hR : R0 c m) (K : ∀ c' m', R0 c' m' → WN E 4 1474 cl sl [(3, .int (nI I)), (2, .ref (phm 0)), (1, .ref (phc 0)), (0, .ref b)] [] (wld cM phc E.2.2.2.1 c' ++ wld mM phm E.2.2.2.1 m')) : WN E 4 476 cl sl [(3, .int (nI I)), (2, .ref (phm 0)), (1, .ref (phc 0)), (0, .ref b)] [] (wld cM phc E.2.2.2.1 c ++ wld mM phm E.2.2.2.1 m) := by
  obtain ⟨c', r, m', r', e1, e2, hr, hR'⟩ := sim_rate (xs (I + 1)) hR
  subst hr
  refine n_aload_n O 2 dL_law_476 rfl rfl ?_
  refine n_arg (jn := 1) (I := I) O X 3 0 dL_law_477 dL_law_478 dL_law_479 dL_law_480 dL_law_481 rfl rfl (by decide) (by omega) hL ?_
  refine n_swap ?_
  refine n_VI (k := 0) (As := [.int (xs (I + 1))]) (st := []) O hpc lk_L_57 (k_X5_rate e1) rfl cs_0 rfl rfl ⟨rfl, rfl⟩ (by decide +kernel) rfl (Nat.le_of_ble_eq_true rfl) hc dL_law_482 ?_
  refine n_swap ?_
  refine n_aload_n O 1 dL_law_485 rfl rfl ?_
  refine n_arg (jn := 1) (I := I) O X 3 0 dL_law_486 dL_law_487 dL_law_488 dL_law_489 dL_law_490 rfl rfl (by decide) (by omega) hL ?_
  refine n_VI (k := 0) (As := [.int (xs (I + 1))]) (st := [.int r]) O hpm lk_L_60 (k_X6_rate e2) rfl ms_0 rfl rfl ⟨rfl, rfl⟩ (by decide +kernel) rfl (Nat.le_of_ble_eq_true rfl) hc dL_law_491 ?_
  exact n_eqT (tgt := 1474) O dL_law_494 (by decide) (K c' m' hR')
theorem lc_11 {E : XC} {nm : String} {b L cl sl I : Nat} {xs : Nat → Int32} {phc phm : Nat → Nat} {c m : StA} (O : ON E R_law cL_law 4 room_1 nm) (X : LE E b L xs) (hL : L ≤ 320) (hI : I + 5 ≤ L) (hc : cl ≤ room_1.cells ∧ sl ≤ room_1.slots) (hpc : ∀ k, 100 ≤ k → phc k = E.2.2.1 k) (hpm : ∀ k, 100 ≤ k → phm k = E.2.2.1 k) (hR : R0 c m) (K : ∀ c' m', R0 c' m' → WN E 4 1474 cl sl [(3, .int (nI I)), (2, .ref (phm 0)), (1, .ref (phc 0)), (0, .ref b)] [] (wld cM phc E.2.2.2.1 c' ++ wld mM phm E.2.2.2.1 m')) : WN E 4 499 cl sl [(3, .int (nI I)), (2, .ref (phm 0)), (1, .ref (phc 0)), (0, .ref b)] [] (wld cM phc E.2.2.2.1 c ++ wld mM phm E.2.2.2.1 m) := by
  obtain ⟨c', r, m', r', e1, e2, hr, hR'⟩ := sim_say (xs (I + 1)) hR
  subst hr
  refine n_aload_n O 2 dL_law_499 rfl rfl ?_
  refine n_arg (jn := 1) (I := I) O X 3 0 dL_law_500 dL_law_501 dL_law_502 dL_law_503 dL_law_504 rfl rfl (by decide) (by omega) hL ?_
  refine n_swap ?_
  refine n_VI (k := 0) (As := [.int (xs (I + 1))]) (st := []) O hpc lk_L_61 (k_X5_say e1) rfl cs_0 rfl rfl ⟨rfl, rfl⟩ (by decide +kernel) rfl (Nat.le_of_ble_eq_true rfl) hc dL_law_505 ?_
  refine n_swap ?_
  refine n_aload_n O 1 dL_law_508 rfl rfl ?_
  refine n_arg (jn := 1) (I := I) O X 3 0 dL_law_509 dL_law_510 dL_law_511 dL_law_512 dL_law_513 rfl rfl (by decide) (by omega) hL ?_
  refine n_VI (k := 0) (As := [.int (xs (I + 1))]) (st := [.int r]) O hpm lk_L_64 (k_X6_say e2) rfl ms_0 rfl rfl ⟨rfl, rfl⟩ (by decide +kernel) rfl (Nat.le_of_ble_eq_true rfl) hc dL_law_514 ?_
  exact n_eqT (tgt := 1474) O dL_law_517 (by decide) (K c' m' hR')
theorem lc_12 {E : XC} {nm : String} {b L cl sl I : Nat} {xs : Nat → Int32} {phc phm : Nat → Nat} {c m : StA} (O : ON E R_law cL_law 4 room_1 nm) (X : LE E b L xs) (hL : L ≤ 320) (hI : I + 5 ≤ L) (hc : cl ≤ room_1.cells ∧ sl ≤ room_1.slots) (hpc : ∀ k, 100 ≤ k → phc k = E.2.2.1 k) (hpm : ∀ k, 100 ≤ k → phm k = E.2.2.1 k) (hR : R0 c m) (K : ∀ c' m', R0 c' m' → WN E 4 1474 cl sl [(3, .int (nI I)), (2, .ref (phm 0)), (1, .ref (phc 0)), (0, .ref b)] [] (wld cM phc E.2.2.2.1 c' ++ wld mM phm E.2.2.2.1 m')) : WN E 4 522 cl sl [(3, .int (nI I)), (2, .ref (phm 0)), (1, .ref (phc 0)), (0, .ref b)] [] (wld cM phc E.2.2.2.1 c ++ wld mM phm E.2.2.2.1 m) := by
  obtain ⟨c', r, m', r', e1, e2, hr, hR'⟩ := sim_take (xs (I + 1)) hR
  subst hr
  refine n_aload_n O 2 dL_law_522 rfl rfl ?_
  refine n_arg (jn := 1) (I := I) O X 3 0 dL_law_523 dL_law_524 dL_law_525 dL_law_526 dL_law_527 rfl rfl (by decide) (by omega) hL ?_
  refine n_swap ?_
  refine n_VI (k := 0) (As := [.int (xs (I + 1))]) (st := []) O hpc lk_L_65 (k_X5_take e1) rfl cs_0 rfl rfl ⟨rfl, rfl⟩ (by decide +kernel) rfl (Nat.le_of_ble_eq_true rfl) hc dL_law_528 ?_
  refine n_swap ?_
  refine n_aload_n O 1 dL_law_531 rfl rfl ?_
  refine n_arg (jn := 1) (I := I) O X 3 0 dL_law_532 dL_law_533 dL_law_534 dL_law_535 dL_law_536 rfl rfl (by decide) (by omega) hL ?_
  refine n_VI (k := 0) (As := [.int (xs (I + 1))]) (st := [.int r]) O hpm lk_L_68 (k_X6_take e2) rfl ms_0 rfl rfl ⟨rfl, rfl⟩ (by decide +kernel) rfl (Nat.le_of_ble_eq_true rfl) hc dL_law_537 ?_
  exact n_eqT (tgt := 1474) O dL_law_540 (by decide) (K c' m' hR')
theorem lc_13 {E : XC} {nm : String} {b L cl sl I : Nat} {xs : Nat → Int32} {phc phm : Nat → Nat} {c m : StA} (O : ON E R_law cL_law 4 room_1 nm) (X : LE E b L xs) (hL : L ≤ 320) (hI : I + 5 ≤ L) (hc : cl ≤ room_1.cells ∧ sl ≤ room_1.slots) (hpc : ∀ k, 100 ≤ k → phc k = E.2.2.1 k) (hpm : ∀ k, 100 ≤ k → phm k = E.2.2.1 k) (hR : R0 c m) (K : ∀ c' m', R0 c' m' → WN E 4 1474 cl sl [(3, .int (nI I)), (2, .ref (phm 0)), (1, .ref (phc 0)), (0, .ref b)] [] (wld cM phc E.2.2.2.1 c' ++ wld mM phm E.2.2.2.1 m')) : WN E 4 545 cl sl [(3, .int (nI I)), (2, .ref (phm 0)), (1, .ref (phc 0)), (0, .ref b)] [] (wld cM phc E.2.2.2.1 c ++ wld mM phm E.2.2.2.1 m) := by
  obtain ⟨c', r, m', r', e1, e2, hr, hR'⟩ := sim_plan (xs (I + 1)) (xs (I + 2)) hR
  subst hr
  refine n_aload_n O 2 dL_law_545 rfl rfl ?_
  refine n_arg (jn := 1) (I := I) O X 3 0 dL_law_546 dL_law_547 dL_law_548 dL_law_549 dL_law_550 rfl rfl (by decide) (by omega) hL ?_
  refine n_arg (jn := 2) (I := I) O X 3 0 dL_law_551 dL_law_552 dL_law_553 dL_law_554 dL_law_555 rfl rfl (by decide) (by omega) hL ?_
  refine n_swap ?_
  refine n_VI (k := 0) (As := [.int (xs (I + 1)), .int (xs (I + 2))]) (st := []) O hpc lk_L_69 (k_X5_plan e1) rfl cs_0 rfl rfl ⟨rfl, rfl⟩ (by decide +kernel) rfl (Nat.le_of_ble_eq_true rfl) hc dL_law_556 ?_
  refine n_swap ?_
  refine n_aload_n O 1 dL_law_559 rfl rfl ?_
  refine n_arg (jn := 1) (I := I) O X 3 0 dL_law_560 dL_law_561 dL_law_562 dL_law_563 dL_law_564 rfl rfl (by decide) (by omega) hL ?_
  refine n_arg (jn := 2) (I := I) O X 3 0 dL_law_565 dL_law_566 dL_law_567 dL_law_568 dL_law_569 rfl rfl (by decide) (by omega) hL ?_
  refine n_VI (k := 0) (As := [.int (xs (I + 1)), .int (xs (I + 2))]) (st := [.int r]) O hpm lk_L_72 (k_X6_plan e2) rfl ms_0 rfl rfl ⟨rfl, rfl⟩ (by decide +kernel) rfl (Nat.le_of_ble_eq_true rfl) hc dL_law_570 ?_
  exact n_eqT (tgt := 1474) O dL_law_573 (by decide) (K c' m' hR')
theorem lc_14 {E : XC} {nm : String} {b L cl sl I : Nat} {xs : Nat → Int32} {phc phm : Nat → Nat} {c m : StA} (O : ON E R_law cL_law 4 room_1 nm) (X : LE E b L xs) (hL : L ≤ 320) (hI : I + 5 ≤ L) (hc : cl ≤ room_1.cells ∧ sl ≤ room_1.slots) (hpc : ∀ k, 100 ≤ k → phc k = E.2.2.1 k) (hpm : ∀ k, 100 ≤ k → phm k = E.2.2.1 k) (hR : R0 c m) (K : ∀ c' m', R0 c' m' → WN E 4 1474 cl sl [(3, .int (nI I)), (2, .ref (phm 0)), (1, .ref (phc 0)), (0, .ref b)] [] (wld cM phc E.2.2.2.1 c' ++ wld mM phm E.2.2.2.1 m')) : WN E 4 578 cl sl [(3, .int (nI I)), (2, .ref (phm 0)), (1, .ref (phc 0)), (0, .ref b)] [] (wld cM phc E.2.2.2.1 c ++ wld mM phm E.2.2.2.1 m) := by
  obtain ⟨c', r, m', r', e1, e2, hr, hR'⟩ := sim_cut (xs (I + 1)) hR
  subst hr
  refine n_aload_n O 2 dL_law_578 rfl rfl ?_
  refine n_arg (jn := 1) (I := I) O X 3 0 dL_law_579 dL_law_580 dL_law_581 dL_law_582 dL_law_583 rfl rfl (by decide) (by omega) hL ?_
  refine n_swap ?_
  refine n_VI (k := 0) (As := [.int (xs (I + 1))]) (st := []) O hpc lk_L_73 (k_X5_cut e1) rfl cs_0 rfl rfl ⟨rfl, rfl⟩ (by decide +kernel) rfl (Nat.le_of_ble_eq_true rfl) hc dL_law_584 ?_
  refine n_swap ?_
  refine n_aload_n O 1 dL_law_587 rfl rfl ?_
  refine n_arg (jn := 1) (I := I) O X 3 0 dL_law_588 dL_law_589 dL_law_590 dL_law_591 dL_law_592 rfl rfl (by decide) (by omega) hL ?_
  refine n_VI (k := 0) (As := [.int (xs (I + 1))]) (st := [.int r]) O hpm lk_L_76 (k_X6_cut e2) rfl ms_0 rfl rfl ⟨rfl, rfl⟩ (by decide +kernel) rfl (Nat.le_of_ble_eq_true rfl) hc dL_law_593 ?_
  exact n_eqT (tgt := 1474) O dL_law_596 (by decide) (K c' m' hR')
theorem lc_15 {E : XC} {nm : String} {b L cl sl I : Nat} {xs : Nat → Int32} {phc phm : Nat → Nat} {c m : StA} (O : ON E R_law cL_law 4 room_1 nm) (X : LE E b L xs) (hL : L ≤ 320) (hI : I + 5 ≤ L) (hc : cl ≤ room_1.cells ∧ sl ≤ room_1.slots) (hpc : ∀ k, 100 ≤ k → phc k = E.2.2.1 k) (hpm : ∀ k, 100 ≤ k → phm k = E.2.2.1 k) (hR : R0 c m) (K : ∀ c' m', R0 c' m' → WN E 4 1474 cl sl [(3, .int (nI I)), (2, .ref (phm 0)), (1, .ref (phc 0)), (0, .ref b)] [] (wld cM phc E.2.2.2.1 c' ++ wld mM phm E.2.2.2.1 m')) : WN E 4 601 cl sl [(3, .int (nI I)), (2, .ref (phm 0)), (1, .ref (phc 0)), (0, .ref b)] [] (wld cM phc E.2.2.2.1 c ++ wld mM phm E.2.2.2.1 m) := by
  obtain ⟨c', r, m', r', e1, e2, hr, hR'⟩ := sim_minutes (xs (I + 1)) hR
  subst hr
  refine n_aload_n O 2 dL_law_601 rfl rfl ?_
  refine n_arg (jn := 1) (I := I) O X 3 0 dL_law_602 dL_law_603 dL_law_604 dL_law_605 dL_law_606 rfl rfl (by decide) (by omega) hL ?_
  refine n_swap ?_
  refine n_VI (k := 0) (As := [.int (xs (I + 1))]) (st := []) O hpc lk_L_77 (k_X5_minutes e1) rfl cs_0 rfl rfl ⟨rfl, rfl⟩ (by decide +kernel) rfl (Nat.le_of_ble_eq_true rfl) hc dL_law_607 ?_
  refine n_swap ?_
  refine n_aload_n O 1 dL_law_610 rfl rfl ?_
  refine n_arg (jn := 1) (I := I) O X 3 0 dL_law_611 dL_law_612 dL_law_613 dL_law_614 dL_law_615 rfl rfl (by decide) (by omega) hL ?_
  refine n_VI (k := 0) (As := [.int (xs (I + 1))]) (st := [.int r]) O hpm lk_L_80 (k_X6_minutes e2) rfl ms_0 rfl rfl ⟨rfl, rfl⟩ (by decide +kernel) rfl (Nat.le_of_ble_eq_true rfl) hc dL_law_616 ?_
  exact n_eqT (tgt := 1474) O dL_law_619 (by decide) (K c' m' hR')
theorem lc_16 {E : XC} {nm : String} {b L cl sl I : Nat} {xs : Nat → Int32} {phc phm : Nat → Nat} {c m : StA} (O : ON E R_law cL_law 4 room_1 nm) (X : LE E b L xs) (hL : L ≤ 320) (hI : I + 5 ≤ L) (hc : cl ≤ room_1.cells ∧ sl ≤ room_1.slots) (hpc : ∀ k, 100 ≤ k → phc k = E.2.2.1 k) (hpm : ∀ k, 100 ≤ k → phm k = E.2.2.1 k) (hR : R0 c m) (K : ∀ c' m', R0 c' m' → WN E 4 1474 cl sl [(3, .int (nI I)), (2, .ref (phm 0)), (1, .ref (phc 0)), (0, .ref b)] [] (wld cM phc E.2.2.2.1 c' ++ wld mM phm E.2.2.2.1 m')) : WN E 4 624 cl sl [(3, .int (nI I)), (2, .ref (phm 0)), (1, .ref (phc 0)), (0, .ref b)] [] (wld cM phc E.2.2.2.1 c ++ wld mM phm E.2.2.2.1 m) := by
  obtain ⟨c', r, m', r', e1, e2, hr, hR'⟩ := sim_runs (xs (I + 1)) (xs (I + 2)) hR
  subst hr
  refine n_aload_n O 2 dL_law_624 rfl rfl ?_
  refine n_arg (jn := 1) (I := I) O X 3 0 dL_law_625 dL_law_626 dL_law_627 dL_law_628 dL_law_629 rfl rfl (by decide) (by omega) hL ?_
  refine n_arg (jn := 2) (I := I) O X 3 0 dL_law_630 dL_law_631 dL_law_632 dL_law_633 dL_law_634 rfl rfl (by decide) (by omega) hL ?_
  refine n_swap ?_
  refine n_VI (k := 0) (As := [.int (xs (I + 1)), .int (xs (I + 2))]) (st := []) O hpc lk_L_81 (k_X5_runs e1) rfl cs_0 rfl rfl ⟨rfl, rfl⟩ (by decide +kernel) rfl (Nat.le_of_ble_eq_true rfl) hc dL_law_635 ?_
  refine n_swap ?_
  refine n_aload_n O 1 dL_law_638 rfl rfl ?_
  refine n_arg (jn := 1) (I := I) O X 3 0 dL_law_639 dL_law_640 dL_law_641 dL_law_642 dL_law_643 rfl rfl (by decide) (by omega) hL ?_
  refine n_arg (jn := 2) (I := I) O X 3 0 dL_law_644 dL_law_645 dL_law_646 dL_law_647 dL_law_648 rfl rfl (by decide) (by omega) hL ?_
  refine n_VI (k := 0) (As := [.int (xs (I + 1)), .int (xs (I + 2))]) (st := [.int r]) O hpm lk_L_84 (k_X6_runs e2) rfl ms_0 rfl rfl ⟨rfl, rfl⟩ (by decide +kernel) rfl (Nat.le_of_ble_eq_true rfl) hc dL_law_649 ?_
  exact n_eqT (tgt := 1474) O dL_law_652 (by decide) (K c' m' hR')
theorem lc_17 {E : XC} {nm : String} {b L cl sl I : Nat} {xs : Nat → Int32} {phc phm : Nat → Nat} {c m : StA} (O : ON E R_law cL_law 4 room_1 nm) (X : LE E b L xs) (hL : L ≤ 320) (hI : I + 5 ≤ L) (hc : cl ≤ room_1.cells ∧ sl ≤ room_1.slots) (hpc : ∀ k, 100 ≤ k → phc k = E.2.2.1 k) (hpm : ∀ k, 100 ≤ k → phm k = E.2.2.1 k) (hR : R0 c m) (K : ∀ c' m', R0 c' m' → WN E 4 1474 cl sl [(3, .int (nI I)), (2, .ref (phm 0)), (1, .ref (phc 0)), (0, .ref b)] [] (wld cM phc E.2.2.2.1 c' ++ wld mM phm E.2.2.2.1 m')) : WN E 4 657 cl sl [(3, .int (nI I)), (2, .ref (phm 0)), (1, .ref (phc 0)), (0, .ref b)] [] (wld cM phc E.2.2.2.1 c ++ wld mM phm E.2.2.2.1 m) := by
  obtain ⟨c', r, m', r', e1, e2, hr, hR'⟩ := sim_falls  hR
  subst hr
  refine n_aload_n O 2 dL_law_657 rfl rfl ?_
  refine n_swap ?_
  refine n_VI (k := 0) (As := []) (st := []) O hpc lk_L_85 (k_X5_falls e1) rfl cs_0 rfl rfl ⟨rfl, rfl⟩ (by decide +kernel) rfl (Nat.le_of_ble_eq_true rfl) hc dL_law_658 ?_
  refine n_swap ?_
  refine n_aload_n O 1 dL_law_661 rfl rfl ?_
  refine n_VI (k := 0) (As := []) (st := [.int r]) O hpm lk_L_88 (k_X6_falls e2) rfl ms_0 rfl rfl ⟨rfl, rfl⟩ (by decide +kernel) rfl (Nat.le_of_ble_eq_true rfl) hc dL_law_662 ?_
  exact n_eqT (tgt := 1474) O dL_law_665 (by decide) (K c' m' hR')
theorem lc_18 {E : XC} {nm : String} {b L cl sl I : Nat} {xs : Nat → Int32} {phc phm : Nat → Nat} {c m : StA} (O : ON E R_law cL_law 4 room_1 nm) (X : LE E b L xs) (hL : L ≤ 320) (hI : I + 5 ≤ L) (hc : cl ≤ room_1.cells ∧ sl ≤ room_1.slots) (hpc : ∀ k, 100 ≤ k → phc k = E.2.2.1 k) (hpm : ∀ k, 100 ≤ k → phm k = E.2.2.1 k) (hR : R0 c m) (K : ∀ c' m', R0 c' m' → WN E 4 1474 cl sl [(3, .int (nI I)), (2, .ref (phm 0)), (1, .ref (phc 0)), (0, .ref b)] [] (wld cM phc E.2.2.2.1 c' ++ wld mM phm E.2.2.2.1 m')) : WN E 4 670 cl sl [(3, .int (nI I)), (2, .ref (phm 0)), (1, .ref (phc 0)), (0, .ref b)] [] (wld cM phc E.2.2.2.1 c ++ wld mM phm E.2.2.2.1 m) := by
  obtain ⟨c', r, m', r', e1, e2, hr, hR'⟩ := sim_church (xs (I + 1)) hR
  subst hr
  refine n_aload_n O 2 dL_law_670 rfl rfl ?_
  refine n_arg (jn := 1) (I := I) O X 3 0 dL_law_671 dL_law_672 dL_law_673 dL_law_674 dL_law_675 rfl rfl (by decide) (by omega) hL ?_
  refine n_swap ?_
  refine n_VI (k := 0) (As := [.int (xs (I + 1))]) (st := []) O hpc lk_L_89 (k_X5_church e1) rfl cs_0 rfl rfl ⟨rfl, rfl⟩ (by decide +kernel) rfl (Nat.le_of_ble_eq_true rfl) hc dL_law_676 ?_
  refine n_swap ?_
  refine n_aload_n O 1 dL_law_679 rfl rfl ?_
  refine n_arg (jn := 1) (I := I) O X 3 0 dL_law_680 dL_law_681 dL_law_682 dL_law_683 dL_law_684 rfl rfl (by decide) (by omega) hL ?_
  refine n_VI (k := 0) (As := [.int (xs (I + 1))]) (st := [.int r]) O hpm lk_L_92 (k_X6_church e2) rfl ms_0 rfl rfl ⟨rfl, rfl⟩ (by decide +kernel) rfl (Nat.le_of_ble_eq_true rfl) hc dL_law_685 ?_
  exact n_eqT (tgt := 1474) O dL_law_688 (by decide) (K c' m' hR')
theorem lc_19 {E : XC} {nm : String} {b L cl sl I : Nat} {xs : Nat → Int32} {phc phm : Nat → Nat} {c m : StA} (O : ON E R_law cL_law 4 room_1 nm) (X : LE E b L xs) (hL : L ≤ 320) (hI : I + 5 ≤ L) (hc : cl ≤ room_1.cells ∧ sl ≤ room_1.slots) (hpc : ∀ k, 100 ≤ k → phc k = E.2.2.1 k) (hpm : ∀ k, 100 ≤ k → phm k = E.2.2.1 k) (hR : R0 c m) (K : ∀ c' m', R0 c' m' → WN E 4 1474 cl sl [(3, .int (nI I)), (2, .ref (phm 0)), (1, .ref (phc 0)), (0, .ref b)] [] (wld cM phc E.2.2.2.1 c' ++ wld mM phm E.2.2.2.1 m')) : WN E 4 693 cl sl [(3, .int (nI I)), (2, .ref (phm 0)), (1, .ref (phc 0)), (0, .ref b)] [] (wld cM phc E.2.2.2.1 c ++ wld mM phm E.2.2.2.1 m) := by
  obtain ⟨c', r, m', r', e1, e2, hr, hR'⟩ := sim_best (xs (I + 1)) hR
  subst hr
  refine n_aload_n O 2 dL_law_693 rfl rfl ?_
  refine n_arg (jn := 1) (I := I) O X 3 0 dL_law_694 dL_law_695 dL_law_696 dL_law_697 dL_law_698 rfl rfl (by decide) (by omega) hL ?_
  refine n_swap ?_
  refine n_VI (k := 0) (As := [.int (xs (I + 1))]) (st := []) O hpc lk_L_93 (k_X5_best e1) rfl cs_0 rfl rfl ⟨rfl, rfl⟩ (by decide +kernel) rfl (Nat.le_of_ble_eq_true rfl) hc dL_law_699 ?_
  refine n_swap ?_
  refine n_aload_n O 1 dL_law_702 rfl rfl ?_
  refine n_arg (jn := 1) (I := I) O X 3 0 dL_law_703 dL_law_704 dL_law_705 dL_law_706 dL_law_707 rfl rfl (by decide) (by omega) hL ?_
  refine n_VI (k := 0) (As := [.int (xs (I + 1))]) (st := [.int r]) O hpm lk_L_96 (k_X6_best e2) rfl ms_0 rfl rfl ⟨rfl, rfl⟩ (by decide +kernel) rfl (Nat.le_of_ble_eq_true rfl) hc dL_law_708 ?_
  exact n_eqT (tgt := 1474) O dL_law_711 (by decide) (K c' m' hR')
theorem lc_20 {E : XC} {nm : String} {b L cl sl I : Nat} {xs : Nat → Int32} {phc phm : Nat → Nat} {c m : StA} (O : ON E R_law cL_law 4 room_1 nm) (X : LE E b L xs) (hL : L ≤ 320) (hI : I + 5 ≤ L) (hc : cl ≤ room_1.cells ∧ sl ≤ room_1.slots) (hpc : ∀ k, 100 ≤ k → phc k = E.2.2.1 k) (hpm : ∀ k, 100 ≤ k → phm k = E.2.2.1 k) (hR : R0 c m) (K : ∀ c' m', R0 c' m' → WN E 4 1474 cl sl [(3, .int (nI I)), (2, .ref (phm 0)), (1, .ref (phc 0)), (0, .ref b)] [] (wld cM phc E.2.2.2.1 c' ++ wld mM phm E.2.2.2.1 m')) : WN E 4 716 cl sl [(3, .int (nI I)), (2, .ref (phm 0)), (1, .ref (phc 0)), (0, .ref b)] [] (wld cM phc E.2.2.2.1 c ++ wld mM phm E.2.2.2.1 m) := by
  obtain ⟨c', r, m', r', e1, e2, hr, hR'⟩ := sim_both (xs (I + 1)) (xs (I + 2)) hR
  subst hr
  refine n_aload_n O 2 dL_law_716 rfl rfl ?_
  refine n_arg (jn := 1) (I := I) O X 3 0 dL_law_717 dL_law_718 dL_law_719 dL_law_720 dL_law_721 rfl rfl (by decide) (by omega) hL ?_
  refine n_arg (jn := 2) (I := I) O X 3 0 dL_law_722 dL_law_723 dL_law_724 dL_law_725 dL_law_726 rfl rfl (by decide) (by omega) hL ?_
  refine n_swap ?_
  refine n_VI (k := 0) (As := [.int (xs (I + 1)), .int (xs (I + 2))]) (st := []) O hpc lk_L_97 (k_X5_both e1) rfl cs_0 rfl rfl ⟨rfl, rfl⟩ (by decide +kernel) rfl (Nat.le_of_ble_eq_true rfl) hc dL_law_727 ?_
  refine n_swap ?_
  refine n_aload_n O 1 dL_law_730 rfl rfl ?_
  refine n_arg (jn := 1) (I := I) O X 3 0 dL_law_731 dL_law_732 dL_law_733 dL_law_734 dL_law_735 rfl rfl (by decide) (by omega) hL ?_
  refine n_arg (jn := 2) (I := I) O X 3 0 dL_law_736 dL_law_737 dL_law_738 dL_law_739 dL_law_740 rfl rfl (by decide) (by omega) hL ?_
  refine n_VI (k := 0) (As := [.int (xs (I + 1)), .int (xs (I + 2))]) (st := [.int r]) O hpm lk_L_100 (k_X6_both e2) rfl ms_0 rfl rfl ⟨rfl, rfl⟩ (by decide +kernel) rfl (Nat.le_of_ble_eq_true rfl) hc dL_law_741 ?_
  exact n_eqT (tgt := 1474) O dL_law_744 (by decide) (K c' m' hR')
