abbrev LVl (g : GG) (b i : Nat) : List (Option Value) := [some (.ref b), some (.ref (g.1 0)), some (.ref (g.1 33)), some (.int (nI i))]
section LCASES
variable {l : Launch} {p : Program} {e : Env} {s : State} {m : MethodId} {below : List Frame} {meth : Method} {c : Code} {g : GG} {b L : Nat} {xs : Nat → Int32} {bb i : Nat} {w : Wd}
theorem lc_set (X : LX p s m meth c g b L xs) (hL : L ≤ 3072) (hI : INV bb w) (hb : bb ≤ 40000) (hi : i + 6 ≤ L) (k : ∀ w2, INV (bb + 60) w2 → GoL l p e s m below meth c g b 1302 (LVl g b i) [] w2) : GoL l p e s m below meth c g b 204 (LVl g b i) [] w := by
  obtain ⟨q, hX, hG, hY⟩ : STEP l g bb w S_set Q_set [.int (xs (i + 1)), .int (xs (i + 2))] := st_set hI hb
  refine l_aload X dL_204 rfl ?_
  refine l_arg (z := 1) X hL rfl rfl dL_205 dL_206 dL_207 dL_208 dL_209 (by omega) ?_
  refine l_arg (z := 2) X hL rfl rfl dL_210 dL_211 dL_212 dL_213 dL_214 (by omega) ?_
  refine l_callV (as := [.int (xs (i + 1)), .int (xs (i + 2))]) (rest := []) (bq := 0) X dL_215 kL_13 rfl rfl hX (Nat.le_of_ble_eq_true rfl) rfl (fun r1 w1 q1 => ?_)
  obtain ⟨rfl, B, T, e1⟩ := q1
  refine l_aload X dL_218 rfl ?_
  refine l_arg (z := 1) X hL rfl rfl dL_219 dL_220 dL_221 dL_222 dL_223 (by omega) ?_
  refine l_arg (z := 2) X hL rfl rfl dL_224 dL_225 dL_226 dL_227 dL_228 (by omega) ?_
  refine l_callV (as := [.int (xs (i + 1)), .int (xs (i + 2))]) (rest := [.int q.1]) (bq := 33) X dL_229 kL_17 rfl rfl (hY w1 (step_mid hI.1 hG e1)) (Nat.le_of_ble_eq_true rfl) rfl (fun r2 w2 q2 => ?_)
  obtain ⟨rfl, h2, h3⟩ := q2
  exact l_icmp_eq X dL_232 rfl (fun _ => k w2 (step_fin hG e1 h2 h3)) (fun hne => absurd rfl hne)
theorem lc_hill (X : LX p s m meth c g b L xs) (hL : L ≤ 3072) (hI : INV bb w) (hb : bb ≤ 40000) (hi : i + 6 ≤ L) (k : ∀ w2, INV (bb + 60) w2 → GoL l p e s m below meth c g b 1302 (LVl g b i) [] w2) : GoL l p e s m below meth c g b 237 (LVl g b i) [] w := by
  obtain ⟨q, hX, hG, hY⟩ : STEP l g bb w S_hill Q_hill [.int (xs (i + 1))] := st_hill hI hb
  refine l_aload X dL_237 rfl ?_
  refine l_arg (z := 1) X hL rfl rfl dL_238 dL_239 dL_240 dL_241 dL_242 (by omega) ?_
  refine l_callV (as := [.int (xs (i + 1))]) (rest := []) (bq := 0) X dL_243 kL_18 rfl rfl hX (Nat.le_of_ble_eq_true rfl) rfl (fun r1 w1 q1 => ?_)
  obtain ⟨rfl, B, T, e1⟩ := q1
  refine l_aload X dL_246 rfl ?_
  refine l_arg (z := 1) X hL rfl rfl dL_247 dL_248 dL_249 dL_250 dL_251 (by omega) ?_
  refine l_callV (as := [.int (xs (i + 1))]) (rest := [.int q.1]) (bq := 33) X dL_252 kL_22 rfl rfl (hY w1 (step_mid hI.1 hG e1)) (Nat.le_of_ble_eq_true rfl) rfl (fun r2 w2 q2 => ?_)
  obtain ⟨rfl, h2, h3⟩ := q2
  exact l_icmp_eq X dL_255 rfl (fun _ => k w2 (step_fin hG e1 h2 h3)) (fun hne => absurd rfl hne)
theorem lc_sheep (X : LX p s m meth c g b L xs) (hL : L ≤ 3072) (hI : INV bb w) (hb : bb ≤ 40000) (hi : i + 6 ≤ L) (k : ∀ w2, INV (bb + 60) w2 → GoL l p e s m below meth c g b 1302 (LVl g b i) [] w2) : GoL l p e s m below meth c g b 260 (LVl g b i) [] w := by
  obtain ⟨q, hX, hG, hY⟩ : STEP l g bb w S_sheep Q_sheep [.int (xs (i + 1)), .int (xs (i + 2))] := st_sheep hI hb
  refine l_aload X dL_260 rfl ?_
  refine l_arg (z := 1) X hL rfl rfl dL_261 dL_262 dL_263 dL_264 dL_265 (by omega) ?_
  refine l_arg (z := 2) X hL rfl rfl dL_266 dL_267 dL_268 dL_269 dL_270 (by omega) ?_
  refine l_callV (as := [.int (xs (i + 1)), .int (xs (i + 2))]) (rest := []) (bq := 0) X dL_271 kL_23 rfl rfl hX (Nat.le_of_ble_eq_true rfl) rfl (fun r1 w1 q1 => ?_)
  obtain ⟨rfl, B, T, e1⟩ := q1
  refine l_aload X dL_274 rfl ?_
  refine l_arg (z := 1) X hL rfl rfl dL_275 dL_276 dL_277 dL_278 dL_279 (by omega) ?_
  refine l_arg (z := 2) X hL rfl rfl dL_280 dL_281 dL_282 dL_283 dL_284 (by omega) ?_
  refine l_callV (as := [.int (xs (i + 1)), .int (xs (i + 2))]) (rest := [.int q.1]) (bq := 33) X dL_285 kL_26 rfl rfl (hY w1 (step_mid hI.1 hG e1)) (Nat.le_of_ble_eq_true rfl) rfl (fun r2 w2 q2 => ?_)
  obtain ⟨rfl, h2, h3⟩ := q2
  exact l_icmp_eq X dL_288 rfl (fun _ => k w2 (step_fin hG e1 h2 h3)) (fun hne => absurd rfl hne)
theorem lc_of (X : LX p s m meth c g b L xs) (hL : L ≤ 3072) (hI : INV bb w) (hb : bb ≤ 40000) (hi : i + 6 ≤ L) (k : ∀ w2, INV (bb + 60) w2 → GoL l p e s m below meth c g b 1302 (LVl g b i) [] w2) : GoL l p e s m below meth c g b 293 (LVl g b i) [] w := by
  obtain ⟨q, hX, hG, hY⟩ : STEP l g bb w S_of Q_of [.int (xs (i + 1)), .int (xs (i + 2))] := st_of hI hb
  refine l_aload X dL_293 rfl ?_
  refine l_arg (z := 1) X hL rfl rfl dL_294 dL_295 dL_296 dL_297 dL_298 (by omega) ?_
  refine l_arg (z := 2) X hL rfl rfl dL_299 dL_300 dL_301 dL_302 dL_303 (by omega) ?_
  refine l_callV (as := [.int (xs (i + 1)), .int (xs (i + 2))]) (rest := []) (bq := 0) X dL_304 kL_27 rfl rfl hX (Nat.le_of_ble_eq_true rfl) rfl (fun r1 w1 q1 => ?_)
  obtain ⟨rfl, B, T, e1⟩ := q1
  refine l_aload X dL_307 rfl ?_
  refine l_arg (z := 1) X hL rfl rfl dL_308 dL_309 dL_310 dL_311 dL_312 (by omega) ?_
  refine l_arg (z := 2) X hL rfl rfl dL_313 dL_314 dL_315 dL_316 dL_317 (by omega) ?_
  refine l_callV (as := [.int (xs (i + 1)), .int (xs (i + 2))]) (rest := [.int q.1]) (bq := 33) X dL_318 kL_30 rfl rfl (hY w1 (step_mid hI.1 hG e1)) (Nat.le_of_ble_eq_true rfl) rfl (fun r2 w2 q2 => ?_)
  obtain ⟨rfl, h2, h3⟩ := q2
  exact l_icmp_eq X dL_321 rfl (fun _ => k w2 (step_fin hG e1 h2 h3)) (fun hne => absurd rfl hne)
theorem lc_change (X : LX p s m meth c g b L xs) (hL : L ≤ 3072) (hI : INV bb w) (hb : bb ≤ 40000) (hi : i + 6 ≤ L) (k : ∀ w2, INV (bb + 60) w2 → GoL l p e s m below meth c g b 1302 (LVl g b i) [] w2) : GoL l p e s m below meth c g b 326 (LVl g b i) [] w := by
  obtain ⟨q, hX, hG, hY⟩ : STEP l g bb w S_change Q_change [.int (xs (i + 1)), .int (xs (i + 2)), .int (xs (i + 3))] := st_change hI hb
  refine l_aload X dL_326 rfl ?_
  refine l_arg (z := 1) X hL rfl rfl dL_327 dL_328 dL_329 dL_330 dL_331 (by omega) ?_
  refine l_arg (z := 2) X hL rfl rfl dL_332 dL_333 dL_334 dL_335 dL_336 (by omega) ?_
  refine l_arg (z := 3) X hL rfl rfl dL_337 dL_338 dL_339 dL_340 dL_341 (by omega) ?_
  refine l_callV (as := [.int (xs (i + 1)), .int (xs (i + 2)), .int (xs (i + 3))]) (rest := []) (bq := 0) X dL_342 kL_31 rfl rfl hX (Nat.le_of_ble_eq_true rfl) rfl (fun r1 w1 q1 => ?_)
  obtain ⟨rfl, B, T, e1⟩ := q1
  refine l_aload X dL_345 rfl ?_
  refine l_arg (z := 1) X hL rfl rfl dL_346 dL_347 dL_348 dL_349 dL_350 (by omega) ?_
  refine l_arg (z := 2) X hL rfl rfl dL_351 dL_352 dL_353 dL_354 dL_355 (by omega) ?_
  refine l_arg (z := 3) X hL rfl rfl dL_356 dL_357 dL_358 dL_359 dL_360 (by omega) ?_
  refine l_callV (as := [.int (xs (i + 1)), .int (xs (i + 2)), .int (xs (i + 3))]) (rest := [.int q.1]) (bq := 33) X dL_361 kL_35 rfl rfl (hY w1 (step_mid hI.1 hG e1)) (Nat.le_of_ble_eq_true rfl) rfl (fun r2 w2 q2 => ?_)
  obtain ⟨rfl, h2, h3⟩ := q2
  exact l_icmp_eq X dL_364 rfl (fun _ => k w2 (step_fin hG e1 h2 h3)) (fun hne => absurd rfl hne)
theorem lc_drop (X : LX p s m meth c g b L xs) (hL : L ≤ 3072) (hI : INV bb w) (hb : bb ≤ 40000) (hi : i + 6 ≤ L) (k : ∀ w2, INV (bb + 60) w2 → GoL l p e s m below meth c g b 1302 (LVl g b i) [] w2) : GoL l p e s m below meth c g b 369 (LVl g b i) [] w := by
  obtain ⟨q, hX, hG, hY⟩ : STEP l g bb w S_drop Q_drop [] := st_drop hI hb
  refine l_aload X dL_369 rfl ?_
  refine l_callV (as := []) (rest := []) (bq := 0) X dL_370 kL_36 rfl rfl hX (Nat.le_of_ble_eq_true rfl) rfl (fun r1 w1 q1 => ?_)
  obtain ⟨rfl, B, T, e1⟩ := q1
  refine l_aload X dL_373 rfl ?_
  refine l_callV (as := []) (rest := [.int q.1]) (bq := 33) X dL_374 kL_40 rfl rfl (hY w1 (step_mid hI.1 hG e1)) (Nat.le_of_ble_eq_true rfl) rfl (fun r2 w2 q2 => ?_)
  obtain ⟨rfl, h2, h3⟩ := q2
  exact l_icmp_eq X dL_377 rfl (fun _ => k w2 (step_fin hG e1 h2 h3)) (fun hne => absurd rfl hne)
theorem lc_who (X : LX p s m meth c g b L xs) (hL : L ≤ 3072) (hI : INV bb w) (hb : bb ≤ 40000) (hi : i + 6 ≤ L) (k : ∀ w2, INV (bb + 60) w2 → GoL l p e s m below meth c g b 1302 (LVl g b i) [] w2) : GoL l p e s m below meth c g b 382 (LVl g b i) [] w := by
  obtain ⟨q, hX, hG, hY⟩ : STEP l g bb w S_who Q_who [.int (xs (i + 1))] := st_who hI hb
  refine l_aload X dL_382 rfl ?_
  refine l_arg (z := 1) X hL rfl rfl dL_383 dL_384 dL_385 dL_386 dL_387 (by omega) ?_
  refine l_callV (as := [.int (xs (i + 1))]) (rest := []) (bq := 0) X dL_388 kL_41 rfl rfl hX (Nat.le_of_ble_eq_true rfl) rfl (fun r1 w1 q1 => ?_)
  obtain ⟨rfl, B, T, e1⟩ := q1
  refine l_aload X dL_391 rfl ?_
  refine l_arg (z := 1) X hL rfl rfl dL_392 dL_393 dL_394 dL_395 dL_396 (by omega) ?_
  refine l_callV (as := [.int (xs (i + 1))]) (rest := [.int q.1]) (bq := 33) X dL_397 kL_44 rfl rfl (hY w1 (step_mid hI.1 hG e1)) (Nat.le_of_ble_eq_true rfl) rfl (fun r2 w2 q2 => ?_)
  obtain ⟨rfl, h2, h3⟩ := q2
  exact l_icmp_eq X dL_400 rfl (fun _ => k w2 (step_fin hG e1 h2 h3)) (fun hne => absurd rfl hne)
theorem lc_go (X : LX p s m meth c g b L xs) (hL : L ≤ 3072) (hI : INV bb w) (hb : bb ≤ 40000) (hi : i + 6 ≤ L) (k : ∀ w2, INV (bb + 60) w2 → GoL l p e s m below meth c g b 1302 (LVl g b i) [] w2) : GoL l p e s m below meth c g b 405 (LVl g b i) [] w := by
  obtain ⟨q, hX, hG, hY⟩ : STEP l g bb w S_go Q_go [.int (xs (i + 1))] := st_go hI hb
  refine l_aload X dL_405 rfl ?_
  refine l_arg (z := 1) X hL rfl rfl dL_406 dL_407 dL_408 dL_409 dL_410 (by omega) ?_
  refine l_callV (as := [.int (xs (i + 1))]) (rest := []) (bq := 0) X dL_411 kL_45 rfl rfl hX (Nat.le_of_ble_eq_true rfl) rfl (fun r1 w1 q1 => ?_)
  obtain ⟨rfl, B, T, e1⟩ := q1
  refine l_aload X dL_414 rfl ?_
  refine l_arg (z := 1) X hL rfl rfl dL_415 dL_416 dL_417 dL_418 dL_419 (by omega) ?_
  refine l_callV (as := [.int (xs (i + 1))]) (rest := [.int q.1]) (bq := 33) X dL_420 kL_48 rfl rfl (hY w1 (step_mid hI.1 hG e1)) (Nat.le_of_ble_eq_true rfl) rfl (fun r2 w2 q2 => ?_)
  obtain ⟨rfl, h2, h3⟩ := q2
  exact l_icmp_eq X dL_423 rfl (fun _ => k w2 (step_fin hG e1 h2 h3)) (fun hne => absurd rfl hne)
theorem lc_now (X : LX p s m meth c g b L xs) (hL : L ≤ 3072) (hI : INV bb w) (hb : bb ≤ 40000) (hi : i + 6 ≤ L) (k : ∀ w2, INV (bb + 60) w2 → GoL l p e s m below meth c g b 1302 (LVl g b i) [] w2) : GoL l p e s m below meth c g b 428 (LVl g b i) [] w := by
  obtain ⟨q, hX, hG, hY⟩ : STEP l g bb w S_now Q_now [.int (xs (i + 1))] := st_now hI hb
  refine l_aload X dL_428 rfl ?_
  refine l_arg (z := 1) X hL rfl rfl dL_429 dL_430 dL_431 dL_432 dL_433 (by omega) ?_
  refine l_callV (as := [.int (xs (i + 1))]) (rest := []) (bq := 0) X dL_434 kL_49 rfl rfl hX (Nat.le_of_ble_eq_true rfl) rfl (fun r1 w1 q1 => ?_)
  obtain ⟨rfl, B, T, e1⟩ := q1
  refine l_aload X dL_437 rfl ?_
  refine l_arg (z := 1) X hL rfl rfl dL_438 dL_439 dL_440 dL_441 dL_442 (by omega) ?_
  refine l_callV (as := [.int (xs (i + 1))]) (rest := [.int q.1]) (bq := 33) X dL_443 kL_52 rfl rfl (hY w1 (step_mid hI.1 hG e1)) (Nat.le_of_ble_eq_true rfl) rfl (fun r2 w2 q2 => ?_)
  obtain ⟨rfl, h2, h3⟩ := q2
  exact l_icmp_eq X dL_446 rfl (fun _ => k w2 (step_fin hG e1 h2 h3)) (fun hne => absurd rfl hne)
theorem lc_ahead (X : LX p s m meth c g b L xs) (hL : L ≤ 3072) (hI : INV bb w) (hb : bb ≤ 40000) (hi : i + 6 ≤ L) (k : ∀ w2, INV (bb + 60) w2 → GoL l p e s m below meth c g b 1302 (LVl g b i) [] w2) : GoL l p e s m below meth c g b 451 (LVl g b i) [] w := by
  obtain ⟨q, hX, hG, hY⟩ : STEP l g bb w S_ahead Q_ahead [.int (xs (i + 1)), .int (xs (i + 2)), .int (xs (i + 3))] := st_ahead hI hb
  refine l_aload X dL_451 rfl ?_
  refine l_arg (z := 1) X hL rfl rfl dL_452 dL_453 dL_454 dL_455 dL_456 (by omega) ?_
  refine l_arg (z := 2) X hL rfl rfl dL_457 dL_458 dL_459 dL_460 dL_461 (by omega) ?_
  refine l_arg (z := 3) X hL rfl rfl dL_462 dL_463 dL_464 dL_465 dL_466 (by omega) ?_
  refine l_callV (as := [.int (xs (i + 1)), .int (xs (i + 2)), .int (xs (i + 3))]) (rest := []) (bq := 0) X dL_467 kL_53 rfl rfl hX (Nat.le_of_ble_eq_true rfl) rfl (fun r1 w1 q1 => ?_)
  obtain ⟨rfl, B, T, e1⟩ := q1
  refine l_aload X dL_470 rfl ?_
  refine l_arg (z := 1) X hL rfl rfl dL_471 dL_472 dL_473 dL_474 dL_475 (by omega) ?_
  refine l_arg (z := 2) X hL rfl rfl dL_476 dL_477 dL_478 dL_479 dL_480 (by omega) ?_
  refine l_arg (z := 3) X hL rfl rfl dL_481 dL_482 dL_483 dL_484 dL_485 (by omega) ?_
  refine l_callV (as := [.int (xs (i + 1)), .int (xs (i + 2)), .int (xs (i + 3))]) (rest := [.int q.1]) (bq := 33) X dL_486 kL_56 rfl rfl (hY w1 (step_mid hI.1 hG e1)) (Nat.le_of_ble_eq_true rfl) rfl (fun r2 w2 q2 => ?_)
  obtain ⟨rfl, h2, h3⟩ := q2
  exact l_icmp_eq X dL_489 rfl (fun _ => k w2 (step_fin hG e1 h2 h3)) (fun hne => absurd rfl hne)
theorem lc_later (X : LX p s m meth c g b L xs) (hL : L ≤ 3072) (hI : INV bb w) (hb : bb ≤ 40000) (hi : i + 6 ≤ L) (k : ∀ w2, INV (bb + 60) w2 → GoL l p e s m below meth c g b 1302 (LVl g b i) [] w2) : GoL l p e s m below meth c g b 494 (LVl g b i) [] w := by
  obtain ⟨q, hX, hG, hY⟩ : STEP l g bb w S_later Q_later [.int (xs (i + 1)), .int (xs (i + 2))] := st_later hI hb
  refine l_aload X dL_494 rfl ?_
  refine l_arg (z := 1) X hL rfl rfl dL_495 dL_496 dL_497 dL_498 dL_499 (by omega) ?_
  refine l_arg (z := 2) X hL rfl rfl dL_500 dL_501 dL_502 dL_503 dL_504 (by omega) ?_
  refine l_callV (as := [.int (xs (i + 1)), .int (xs (i + 2))]) (rest := []) (bq := 0) X dL_505 kL_57 rfl rfl hX (Nat.le_of_ble_eq_true rfl) rfl (fun r1 w1 q1 => ?_)
  obtain ⟨rfl, B, T, e1⟩ := q1
  refine l_aload X dL_508 rfl ?_
  refine l_arg (z := 1) X hL rfl rfl dL_509 dL_510 dL_511 dL_512 dL_513 (by omega) ?_
  refine l_arg (z := 2) X hL rfl rfl dL_514 dL_515 dL_516 dL_517 dL_518 (by omega) ?_
  refine l_callV (as := [.int (xs (i + 1)), .int (xs (i + 2))]) (rest := [.int q.1]) (bq := 33) X dL_519 kL_60 rfl rfl (hY w1 (step_mid hI.1 hG e1)) (Nat.le_of_ble_eq_true rfl) rfl (fun r2 w2 q2 => ?_)
  obtain ⟨rfl, h2, h3⟩ := q2
  exact l_icmp_eq X dL_522 rfl (fun _ => k w2 (step_fin hG e1 h2 h3)) (fun hne => absurd rfl hne)
theorem lc_when (X : LX p s m meth c g b L xs) (hL : L ≤ 3072) (hI : INV bb w) (hb : bb ≤ 40000) (hi : i + 6 ≤ L) (k : ∀ w2, INV (bb + 60) w2 → GoL l p e s m below meth c g b 1302 (LVl g b i) [] w2) : GoL l p e s m below meth c g b 527 (LVl g b i) [] w := by
  obtain ⟨q, hX, hG, hY⟩ : STEP l g bb w S_when Q_when [.int (xs (i + 1)), .int (xs (i + 2))] := st_when hI hb
  refine l_aload X dL_527 rfl ?_
  refine l_arg (z := 1) X hL rfl rfl dL_528 dL_529 dL_530 dL_531 dL_532 (by omega) ?_
  refine l_arg (z := 2) X hL rfl rfl dL_533 dL_534 dL_535 dL_536 dL_537 (by omega) ?_
  refine l_callV (as := [.int (xs (i + 1)), .int (xs (i + 2))]) (rest := []) (bq := 0) X dL_538 kL_61 rfl rfl hX (Nat.le_of_ble_eq_true rfl) rfl (fun r1 w1 q1 => ?_)
  obtain ⟨rfl, B, T, e1⟩ := q1
  refine l_aload X dL_541 rfl ?_
  refine l_arg (z := 1) X hL rfl rfl dL_542 dL_543 dL_544 dL_545 dL_546 (by omega) ?_
  refine l_arg (z := 2) X hL rfl rfl dL_547 dL_548 dL_549 dL_550 dL_551 (by omega) ?_
  refine l_callV (as := [.int (xs (i + 1)), .int (xs (i + 2))]) (rest := [.int q.1]) (bq := 33) X dL_552 kL_64 rfl rfl (hY w1 (step_mid hI.1 hG e1)) (Nat.le_of_ble_eq_true rfl) rfl (fun r2 w2 q2 => ?_)
  obtain ⟨rfl, h2, h3⟩ := q2
  exact l_icmp_eq X dL_555 rfl (fun _ => k w2 (step_fin hG e1 h2 h3)) (fun hne => absurd rfl hne)
theorem lc_home (X : LX p s m meth c g b L xs) (hL : L ≤ 3072) (hI : INV bb w) (hb : bb ≤ 40000) (hi : i + 6 ≤ L) (k : ∀ w2, INV (bb + 60) w2 → GoL l p e s m below meth c g b 1302 (LVl g b i) [] w2) : GoL l p e s m below meth c g b 560 (LVl g b i) [] w := by
  obtain ⟨q, hX, hG, hY⟩ : STEP l g bb w S_home Q_home [] := st_home hI hb
  refine l_aload X dL_560 rfl ?_
  refine l_callV (as := []) (rest := []) (bq := 0) X dL_561 kL_65 rfl rfl hX (Nat.le_of_ble_eq_true rfl) rfl (fun r1 w1 q1 => ?_)
  obtain ⟨rfl, B, T, e1⟩ := q1
  refine l_aload X dL_564 rfl ?_
  refine l_callV (as := []) (rest := [.int q.1]) (bq := 33) X dL_565 kL_68 rfl rfl (hY w1 (step_mid hI.1 hG e1)) (Nat.le_of_ble_eq_true rfl) rfl (fun r2 w2 q2 => ?_)
  obtain ⟨rfl, h2, h3⟩ := q2
  exact l_icmp_eq X dL_568 rfl (fun _ => k w2 (step_fin hG e1 h2 h3)) (fun hne => absurd rfl hne)
end LCASES
