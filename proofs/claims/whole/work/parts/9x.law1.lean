/-! the law: its cases (written by gen_law.py) -/
def R_law : String := "TwoWhistlesAndFiveEwesLaw"
abbrev mL (nm : String) : zM := (⟨R_law, nm, ""⟩, cL_law, 4, ret)
abbrev lwL (i : Nat) : List (Nat × Value) := [(3, .int (iI (i : Int))), (2, .ref 58), (1, .ref 0), (0, .ref 2000)]
def LW (g : zG) (X : zX) (N : Nat) (sc : Nat → Int32) : Prop := va_X (za g 2000) N sc (xs X) (xs X).heap ∧ za g 2000 < (xs X).heap.size ∧ ¬ zA g (za g 2000) ∧ N ≤ 3072
def ar (sc : Nat → Int32) (j : Nat) : Int := (sc j).toInt
theorem ar_r (sc : Nat → Int32) (j : Nat) : -2147483648 ≤ ar sc j ∧ ar sc j ≤ 2147483647 := by
  have h1 := (sc j).le_toInt
  have h2 := (sc j).toInt_lt
  unfold ar
  omega
section LK
variable {g : zG} {X : zX} {M : zM} {d mc ms nc ns N : Nat} {sc : Nat → Int32} {σ : zSt} {pc i : Nat} {L : List (Nat × Value)} {S : List Value}
theorem z_sld (C : zC g X M d mc ms) (hW : LW g X N sc) {j : Int} (e : Nat) (hj : j = e) (he : e < N) (hd : decode M.2.1 pc = .ok (.iaload, 1)) (kk : zZ g X nc ns σ (pc + 1) L (.int (iI (ar sc e)) :: S)) : zZ g X nc ns σ pc L (.int (iI j) :: .ref 2000 :: S) := by
  subst hj
  rw [← iI_nI]
  intro H locs ls hH hS hl
  have hN := hW.2.2.2
  refine va_sld C.1 C.2.1 hW.1 hW.2.1 hW.2.2.1 hS (vp_in_nI he (by omega)) hd ?_
  rw [nI_clamp (show e < 2 ^ 31 by omega), show sc e = iI (ar sc e) from iI_of _]
  exact kk H locs ls hH hS hl
theorem z_slen (C : zC g X M d mc ms) (hW : LW g X N sc) (hd : decode M.2.1 pc = .ok (.arraylength, 1)) (kk : zZ g X nc ns σ (pc + 1) L (.int (iI (N : Int)) :: S)) : zZ g X nc ns σ pc L (.ref 2000 :: S) :=
  fun H locs ls hH hS hl => va_slen C.1 C.2.1 hW.1 hW.2.1 hW.2.2.1 hS hd (kk H locs ls hH hS hl)
theorem z_arg (C : zC g X M d mc ms) (hW : LW g X N sc) (k : Nat) (d0 : decode M.2.1 pc = .ok (.aload_n 0, 1)) (d1 : decode M.2.1 (pc + 1) = .ok (.iload_n 3, 1)) (d2 : decode M.2.1 (pc + 2) = .ok (.iconst k, 1)) (d3 : decode M.2.1 (pc + 3) = .ok (.iadd, 1)) (d4 : decode M.2.1 (pc + 4) = .ok (.iaload, 1)) (hi : i + k < N) (kk : zZ g X nc ns σ (pc + 5) (lwL i) (.int (iI (ar sc (i + k))) :: S)) : zZ g X nc ns σ pc (lwL i) S := by
  refine z_aload_n C 3 rfl d0 rfl ?_
  refine z_iload_n C 0 rfl d1 rfl ?_
  refine z_iconst C d2 ?_
  refine z_iadd C d3 ?_
  exact z_sld C hW (i + k) (by omega) hi d4 kk
theorem z_same (C : zC g X M d mc ms) {x : Int32} {off : Int} (tgt : Nat) (hd : decode M.2.1 pc = .ok (.if_icmp .eq off, 3)) (ht : (pc : Int) + off = (tgt : Int)) (kt : zZ g X nc ns σ tgt L S) : zZ g X nc ns σ pc L (.int x :: .int x :: S) :=
  fun H locs ls hH hS hl => lv_icmp_eq C.1 C.2.1 hd ht (fun _ => kt H locs ls hH hS hl) (fun h => absurd rfl h)
end LK
theorem lw_0 {g : zG} {X : zX} {mn : String} {nc ns N : Nat} {sc : Nat → Int32} {I : Nat → Nat → Int} {J : Nat → Nat → Int64} {q : Nat × Nat} {i : Nat} (C : zC g X (mL mn) 20 100 3000) (hnc : nc + 0 ≤ 100) (hns : ns + 0 ≤ 3000) (hW : LW g X N sc) (hi : i + 6 ≤ N) (R : Rel I J q) (K : CAN I J) (kk : ∀ I2 J2 q2, Rel I2 J2 q2 → zZ g X nc ns (zst I2 J2 q2) 1571 (lwL i) []) : zZ g X nc ns (zst I J q) 240 (lwL i) [] := by
  obtain ⟨a, p5, hv, h5, k5⟩ := pr_row (g := g) R K (ar_r sc (i + 1)) (ar_r sc (i + 2)) (ar_r sc (i + 3))
  obtain ⟨x, hx⟩ := hv
  subst hx
  refine z_aload_n C 2 rfl dL_law_240 rfl ?_
  refine z_arg C hW 1 dL_law_241 dL_law_242 dL_law_243 dL_law_244 dL_law_245 (by omega) ?_
  refine z_arg C hW 2 dL_law_246 dL_law_247 dL_law_248 dL_law_249 dL_law_250 (by omega) ?_
  refine z_arg C hW 3 dL_law_251 dL_law_252 dL_law_253 dL_law_254 dL_law_255 (by omega) ?_
  show zZ g X _ _ _ 256 (lwL i) (([.int (iI (ar sc (i + 1))), .int (iI (ar sc (i + 2))), .int (iI (ar sc (i + 3)))] : List Value).reverse ++ .ref 0 :: [])
  refine zZ_callV C oX5_row iX5_row eX5_row lkL_13 (ci := 5) (k := 8) rfl (by decide) rfl rfl h5 rfl (by decide) hnc hns (Nat.le_of_ble_eq_true rfl) dL_law_256 (fun r σ' hr => ?_)
  obtain ⟨hr, hLay, p6, h6, k6⟩ := k5 r σ' hr
  subst hr
  show zZ g X nc ns σ' 259 (lwL i) [.int x]
  refine z_aload_n C 1 rfl dL_law_259 rfl ?_
  refine z_arg C hW 1 dL_law_260 dL_law_261 dL_law_262 dL_law_263 dL_law_264 (by omega) ?_
  refine z_arg C hW 2 dL_law_265 dL_law_266 dL_law_267 dL_law_268 dL_law_269 (by omega) ?_
  refine z_arg C hW 3 dL_law_270 dL_law_271 dL_law_272 dL_law_273 dL_law_274 (by omega) ?_
  show zZ g X _ _ _ 275 (lwL i) (([.int (iI (ar sc (i + 1))), .int (iI (ar sc (i + 2))), .int (iI (ar sc (i + 3)))] : List Value).reverse ++ .ref 58 :: [.int x])
  refine zZ_callV C oX6_row iX6_row eX6_row lkL_17 (ci := 6) (k := 30) (by rw [hLay]; rfl) (by decide) rfl rfl h6 rfl (by decide) hnc hns (Nat.le_of_ble_eq_true rfl) dL_law_275 (fun r2 σ2 hr2 => ?_)
  obtain ⟨hr2, I2, J2, q2, R2, hσ⟩ := k6 r2 σ2 hr2
  subst hr2
  subst hσ
  show zZ g X nc ns (zst I2 J2 q2) 278 (lwL i) [.int x, .int x]
  exact z_same C 1571 dL_law_278 (by decide) (kk I2 J2 q2 R2)
theorem lw_1 {g : zG} {X : zX} {mn : String} {nc ns N : Nat} {sc : Nat → Int32} {I : Nat → Nat → Int} {J : Nat → Nat → Int64} {q : Nat × Nat} {i : Nat} (C : zC g X (mL mn) 20 100 3000) (hnc : nc + 0 ≤ 100) (hns : ns + 0 ≤ 3000) (hW : LW g X N sc) (hi : i + 6 ≤ N) (R : Rel I J q) (K : CAN I J) (kk : ∀ I2 J2 q2, Rel I2 J2 q2 → zZ g X nc ns (zst I2 J2 q2) 1571 (lwL i) []) : zZ g X nc ns (zst I J q) 283 (lwL i) [] := by
  obtain ⟨a, p5, hv, h5, k5⟩ := pr_set (g := g) (v := ((((iI (ar sc (i + 3))).toInt64) <<< ((iI 32).toInt64 &&& 63)) ||| (((iI (ar sc (i + 4))).toInt64) &&& 4294967295))) (s := (ar sc (i + 1))) (i := (ar sc (i + 2))) R K (ar_r sc (i + 1)) (ar_r sc (i + 2))
  obtain ⟨x, hx⟩ := hv
  subst hx
  refine z_aload_n C 2 rfl dL_law_283 rfl ?_
  refine z_arg C hW 1 dL_law_284 dL_law_285 dL_law_286 dL_law_287 dL_law_288 (by omega) ?_
  refine z_arg C hW 2 dL_law_289 dL_law_290 dL_law_291 dL_law_292 dL_law_293 (by omega) ?_
  refine z_arg C hW 3 dL_law_294 dL_law_295 dL_law_296 dL_law_297 dL_law_298 (by omega) ?_
  refine z_i2l C (iI (ar sc (i + 3))).toInt64 dL_law_299 rfl ?_
  refine z_bipush C dL_law_300 (by decide) ?_
  refine z_lshl C dL_law_302 ?_
  refine z_arg C hW 4 dL_law_303 dL_law_304 dL_law_305 dL_law_306 dL_law_307 (by omega) ?_
  refine z_i2l C (iI (ar sc (i + 4))).toInt64 dL_law_308 rfl ?_
  refine z_ldc2 C 4294967295 dL_law_309 kcL_18 ?_
  refine z_land C dL_law_312 ?_
  refine z_lor C dL_law_313 ?_
  show zZ g X _ _ _ 314 (lwL i) (([.int (iI (ar sc (i + 1))), .int (iI (ar sc (i + 2))), .long ((((iI (ar sc (i + 3))).toInt64) <<< ((iI 32).toInt64 &&& 63)) ||| (((iI (ar sc (i + 4))).toInt64) &&& 4294967295))] : List Value).reverse ++ .ref 0 :: [])
  refine zZ_callV C oX5_set iX5_set eX5_set lkL_20 (ci := 5) (k := 8) rfl (by decide) rfl rfl h5 rfl (by decide) hnc hns (Nat.le_of_ble_eq_true rfl) dL_law_314 (fun r σ' hr => ?_)
  obtain ⟨hr, hLay, p6, h6, k6⟩ := k5 r σ' hr
  subst hr
  show zZ g X nc ns σ' 317 (lwL i) [.int x]
  refine z_aload_n C 1 rfl dL_law_317 rfl ?_
  refine z_arg C hW 1 dL_law_318 dL_law_319 dL_law_320 dL_law_321 dL_law_322 (by omega) ?_
  refine z_arg C hW 2 dL_law_323 dL_law_324 dL_law_325 dL_law_326 dL_law_327 (by omega) ?_
  refine z_arg C hW 3 dL_law_328 dL_law_329 dL_law_330 dL_law_331 dL_law_332 (by omega) ?_
  refine z_i2l C (iI (ar sc (i + 3))).toInt64 dL_law_333 rfl ?_
  refine z_bipush C dL_law_334 (by decide) ?_
  refine z_lshl C dL_law_336 ?_
  refine z_arg C hW 4 dL_law_337 dL_law_338 dL_law_339 dL_law_340 dL_law_341 (by omega) ?_
  refine z_i2l C (iI (ar sc (i + 4))).toInt64 dL_law_342 rfl ?_
  refine z_ldc2 C 4294967295 dL_law_343 kcL_18 ?_
  refine z_land C dL_law_346 ?_
  refine z_lor C dL_law_347 ?_
  show zZ g X _ _ _ 348 (lwL i) (([.int (iI (ar sc (i + 1))), .int (iI (ar sc (i + 2))), .long ((((iI (ar sc (i + 3))).toInt64) <<< ((iI 32).toInt64 &&& 63)) ||| (((iI (ar sc (i + 4))).toInt64) &&& 4294967295))] : List Value).reverse ++ .ref 58 :: [.int x])
  refine zZ_callV C oX6_set iX6_set eX6_set lkL_24 (ci := 6) (k := 30) (by rw [hLay]; rfl) (by decide) rfl rfl h6 rfl (by decide) hnc hns (Nat.le_of_ble_eq_true rfl) dL_law_348 (fun r2 σ2 hr2 => ?_)
  obtain ⟨hr2, I2, J2, q2, R2, hσ⟩ := k6 r2 σ2 hr2
  subst hr2
  subst hσ
  show zZ g X nc ns (zst I2 J2 q2) 351 (lwL i) [.int x, .int x]
  exact z_same C 1571 dL_law_351 (by decide) (kk I2 J2 q2 R2)
theorem lw_2 {g : zG} {X : zX} {mn : String} {nc ns N : Nat} {sc : Nat → Int32} {I : Nat → Nat → Int} {J : Nat → Nat → Int64} {q : Nat × Nat} {i : Nat} (C : zC g X (mL mn) 20 100 3000) (hnc : nc + 0 ≤ 100) (hns : ns + 0 ≤ 3000) (hW : LW g X N sc) (hi : i + 6 ≤ N) (R : Rel I J q) (K : CAN I J) (kk : ∀ I2 J2 q2, Rel I2 J2 q2 → zZ g X nc ns (zst I2 J2 q2) 1571 (lwL i) []) : zZ g X nc ns (zst I J q) 356 (lwL i) [] := by
  obtain ⟨a, p5, hv, h5, k5⟩ := pr_copy (g := g) R K (ar_r sc (i + 1)) (ar_r sc (i + 2)) (ar_r sc (i + 3)) (ar_r sc (i + 4)) (ar_r sc (i + 5))
  obtain ⟨x, hx⟩ := hv
  subst hx
  refine z_aload_n C 2 rfl dL_law_356 rfl ?_
  refine z_arg C hW 1 dL_law_357 dL_law_358 dL_law_359 dL_law_360 dL_law_361 (by omega) ?_
  refine z_arg C hW 2 dL_law_362 dL_law_363 dL_law_364 dL_law_365 dL_law_366 (by omega) ?_
  refine z_arg C hW 3 dL_law_367 dL_law_368 dL_law_369 dL_law_370 dL_law_371 (by omega) ?_
  refine z_arg C hW 4 dL_law_372 dL_law_373 dL_law_374 dL_law_375 dL_law_376 (by omega) ?_
  refine z_arg C hW 5 dL_law_377 dL_law_378 dL_law_379 dL_law_380 dL_law_381 (by omega) ?_
  show zZ g X _ _ _ 382 (lwL i) (([.int (iI (ar sc (i + 1))), .int (iI (ar sc (i + 2))), .int (iI (ar sc (i + 3))), .int (iI (ar sc (i + 4))), .int (iI (ar sc (i + 5)))] : List Value).reverse ++ .ref 0 :: [])
  refine zZ_callV C oX5_copy iX5_copy eX5_copy lkL_25 (ci := 5) (k := 8) rfl (by decide) rfl rfl h5 rfl (by decide) hnc hns (Nat.le_of_ble_eq_true rfl) dL_law_382 (fun r σ' hr => ?_)
  obtain ⟨hr, hLay, p6, h6, k6⟩ := k5 r σ' hr
  subst hr
  show zZ g X nc ns σ' 385 (lwL i) [.int x]
  refine z_aload_n C 1 rfl dL_law_385 rfl ?_
  refine z_arg C hW 1 dL_law_386 dL_law_387 dL_law_388 dL_law_389 dL_law_390 (by omega) ?_
  refine z_arg C hW 2 dL_law_391 dL_law_392 dL_law_393 dL_law_394 dL_law_395 (by omega) ?_
  refine z_arg C hW 3 dL_law_396 dL_law_397 dL_law_398 dL_law_399 dL_law_400 (by omega) ?_
  refine z_arg C hW 4 dL_law_401 dL_law_402 dL_law_403 dL_law_404 dL_law_405 (by omega) ?_
  refine z_arg C hW 5 dL_law_406 dL_law_407 dL_law_408 dL_law_409 dL_law_410 (by omega) ?_
  show zZ g X _ _ _ 411 (lwL i) (([.int (iI (ar sc (i + 1))), .int (iI (ar sc (i + 2))), .int (iI (ar sc (i + 3))), .int (iI (ar sc (i + 4))), .int (iI (ar sc (i + 5)))] : List Value).reverse ++ .ref 58 :: [.int x])
  refine zZ_callV C oX6_copy iX6_copy eX6_copy lkL_29 (ci := 6) (k := 30) (by rw [hLay]; rfl) (by decide) rfl rfl h6 rfl (by decide) hnc hns (Nat.le_of_ble_eq_true rfl) dL_law_411 (fun r2 σ2 hr2 => ?_)
  obtain ⟨hr2, I2, J2, q2, R2, hσ⟩ := k6 r2 σ2 hr2
  subst hr2
  subst hσ
  show zZ g X nc ns (zst I2 J2 q2) 414 (lwL i) [.int x, .int x]
  exact z_same C 1571 dL_law_414 (by decide) (kk I2 J2 q2 R2)
theorem lw_3 {g : zG} {X : zX} {mn : String} {nc ns N : Nat} {sc : Nat → Int32} {I : Nat → Nat → Int} {J : Nat → Nat → Int64} {q : Nat × Nat} {i : Nat} (C : zC g X (mL mn) 20 100 3000) (hnc : nc + 0 ≤ 100) (hns : ns + 0 ≤ 3000) (hW : LW g X N sc) (hi : i + 6 ≤ N) (R : Rel I J q) (K : CAN I J) (kk : ∀ I2 J2 q2, Rel I2 J2 q2 → zZ g X nc ns (zst I2 J2 q2) 1571 (lwL i) []) : zZ g X nc ns (zst I J q) 419 (lwL i) [] := by
  obtain ⟨a, p5, hv, h5, k5⟩ := pr_element (g := g) R K (ar_r sc (i + 1)) (ar_r sc (i + 2))
  obtain ⟨x, hx⟩ := hv
  subst hx
  refine z_aload_n C 2 rfl dL_law_419 rfl ?_
  refine z_arg C hW 1 dL_law_420 dL_law_421 dL_law_422 dL_law_423 dL_law_424 (by omega) ?_
  refine z_arg C hW 2 dL_law_425 dL_law_426 dL_law_427 dL_law_428 dL_law_429 (by omega) ?_
  show zZ g X _ _ _ 430 (lwL i) (([.int (iI (ar sc (i + 1))), .int (iI (ar sc (i + 2)))] : List Value).reverse ++ .ref 0 :: [])
  refine zZ_callV C oX5_element iX5_element eX5_element lkL_30 (ci := 5) (k := 8) rfl (by decide) rfl rfl h5 rfl (by decide) hnc hns (Nat.le_of_ble_eq_true rfl) dL_law_430 (fun r σ' hr => ?_)
  obtain ⟨hr, hLay, p6, h6, k6⟩ := k5 r σ' hr
  subst hr
  show zZ g X nc ns σ' 433 (lwL i) [.long x]
  refine z_aload_n C 1 rfl dL_law_433 rfl ?_
  refine z_arg C hW 1 dL_law_434 dL_law_435 dL_law_436 dL_law_437 dL_law_438 (by omega) ?_
  refine z_arg C hW 2 dL_law_439 dL_law_440 dL_law_441 dL_law_442 dL_law_443 (by omega) ?_
  show zZ g X _ _ _ 444 (lwL i) (([.int (iI (ar sc (i + 1))), .int (iI (ar sc (i + 2)))] : List Value).reverse ++ .ref 58 :: [.long x])
  refine zZ_callV C oX6_element iX6_element eX6_element lkL_34 (ci := 6) (k := 30) (by rw [hLay]; rfl) (by decide) rfl rfl h6 rfl (by decide) hnc hns (Nat.le_of_ble_eq_true rfl) dL_law_444 (fun r2 σ2 hr2 => ?_)
  obtain ⟨hr2, I2, J2, q2, R2, hσ⟩ := k6 r2 σ2 hr2
  subst hr2
  subst hσ
  show zZ g X nc ns (zst I2 J2 q2) 447 (lwL i) [.long x, .long x]
  exact z_lcmp_eq C 1571 dL_law_447 dL_law_448 (by decide) (fun _ => kk I2 J2 q2 R2) (fun hh => absurd rfl hh)
theorem lw_4 {g : zG} {X : zX} {mn : String} {nc ns N : Nat} {sc : Nat → Int32} {I : Nat → Nat → Int} {J : Nat → Nat → Int64} {q : Nat × Nat} {i : Nat} (C : zC g X (mL mn) 20 100 3000) (hnc : nc + 0 ≤ 100) (hns : ns + 0 ≤ 3000) (hW : LW g X N sc) (hi : i + 6 ≤ N) (R : Rel I J q) (K : CAN I J) (kk : ∀ I2 J2 q2, Rel I2 J2 q2 → zZ g X nc ns (zst I2 J2 q2) 1571 (lwL i) []) : zZ g X nc ns (zst I J q) 453 (lwL i) [] := by
  obtain ⟨a, p5, hv, h5, k5⟩ := pr_holds (g := g) R K (ar_r sc (i + 1))
  obtain ⟨x, hx⟩ := hv
  subst hx
  refine z_aload_n C 2 rfl dL_law_453 rfl ?_
  refine z_arg C hW 1 dL_law_454 dL_law_455 dL_law_456 dL_law_457 dL_law_458 (by omega) ?_
  show zZ g X _ _ _ 459 (lwL i) (([.int (iI (ar sc (i + 1)))] : List Value).reverse ++ .ref 0 :: [])
  refine zZ_callV C oX5_holds iX5_holds eX5_holds lkL_35 (ci := 5) (k := 8) rfl (by decide) rfl rfl h5 rfl (by decide) hnc hns (Nat.le_of_ble_eq_true rfl) dL_law_459 (fun r σ' hr => ?_)
  obtain ⟨hr, hLay, p6, h6, k6⟩ := k5 r σ' hr
  subst hr
  show zZ g X nc ns σ' 462 (lwL i) [.int x]
  refine z_aload_n C 1 rfl dL_law_462 rfl ?_
  refine z_arg C hW 1 dL_law_463 dL_law_464 dL_law_465 dL_law_466 dL_law_467 (by omega) ?_
  show zZ g X _ _ _ 468 (lwL i) (([.int (iI (ar sc (i + 1)))] : List Value).reverse ++ .ref 58 :: [.int x])
  refine zZ_callV C oX6_holds iX6_holds eX6_holds lkL_39 (ci := 6) (k := 30) (by rw [hLay]; rfl) (by decide) rfl rfl h6 rfl (by decide) hnc hns (Nat.le_of_ble_eq_true rfl) dL_law_468 (fun r2 σ2 hr2 => ?_)
  obtain ⟨hr2, I2, J2, q2, R2, hσ⟩ := k6 r2 σ2 hr2
  subst hr2
  subst hσ
  show zZ g X nc ns (zst I2 J2 q2) 471 (lwL i) [.int x, .int x]
  exact z_same C 1571 dL_law_471 (by decide) (kk I2 J2 q2 R2)
theorem lw_5 {g : zG} {X : zX} {mn : String} {nc ns N : Nat} {sc : Nat → Int32} {I : Nat → Nat → Int} {J : Nat → Nat → Int64} {q : Nat × Nat} {i : Nat} (C : zC g X (mL mn) 20 100 3000) (hnc : nc + 0 ≤ 100) (hns : ns + 0 ≤ 3000) (hW : LW g X N sc) (hi : i + 6 ≤ N) (R : Rel I J q) (K : CAN I J) (kk : ∀ I2 J2 q2, Rel I2 J2 q2 → zZ g X nc ns (zst I2 J2 q2) 1571 (lwL i) []) : zZ g X nc ns (zst I J q) 476 (lwL i) [] := by
  obtain ⟨a, p5, hv, h5, k5⟩ := pr_show (g := g) R K (ar_r sc (i + 1)) (ar_r sc (i + 2))
  obtain ⟨x, hx⟩ := hv
  subst hx
  refine z_aload_n C 2 rfl dL_law_476 rfl ?_
  refine z_arg C hW 1 dL_law_477 dL_law_478 dL_law_479 dL_law_480 dL_law_481 (by omega) ?_
  refine z_arg C hW 2 dL_law_482 dL_law_483 dL_law_484 dL_law_485 dL_law_486 (by omega) ?_
  show zZ g X _ _ _ 487 (lwL i) (([.int (iI (ar sc (i + 1))), .int (iI (ar sc (i + 2)))] : List Value).reverse ++ .ref 0 :: [])
  refine zZ_callV C oX5_show iX5_show eX5_show lkL_40 (ci := 5) (k := 8) rfl (by decide) rfl rfl h5 rfl (by decide) hnc hns (Nat.le_of_ble_eq_true rfl) dL_law_487 (fun r σ' hr => ?_)
  obtain ⟨hr, hLay, p6, h6, k6⟩ := k5 r σ' hr
  subst hr
  show zZ g X nc ns σ' 490 (lwL i) [.int x]
  refine z_aload_n C 1 rfl dL_law_490 rfl ?_
  refine z_arg C hW 1 dL_law_491 dL_law_492 dL_law_493 dL_law_494 dL_law_495 (by omega) ?_
  refine z_arg C hW 2 dL_law_496 dL_law_497 dL_law_498 dL_law_499 dL_law_500 (by omega) ?_
  show zZ g X _ _ _ 501 (lwL i) (([.int (iI (ar sc (i + 1))), .int (iI (ar sc (i + 2)))] : List Value).reverse ++ .ref 58 :: [.int x])
  refine zZ_callV C oX6_show iX6_show eX6_show lkL_44 (ci := 6) (k := 30) (by rw [hLay]; rfl) (by decide) rfl rfl h6 rfl (by decide) hnc hns (Nat.le_of_ble_eq_true rfl) dL_law_501 (fun r2 σ2 hr2 => ?_)
  obtain ⟨hr2, I2, J2, q2, R2, hσ⟩ := k6 r2 σ2 hr2
  subst hr2
  subst hσ
  show zZ g X nc ns (zst I2 J2 q2) 504 (lwL i) [.int x, .int x]
  exact z_same C 1571 dL_law_504 (by decide) (kk I2 J2 q2 R2)
theorem lw_6 {g : zG} {X : zX} {mn : String} {nc ns N : Nat} {sc : Nat → Int32} {I : Nat → Nat → Int} {J : Nat → Nat → Int64} {q : Nat × Nat} {i : Nat} (C : zC g X (mL mn) 20 100 3000) (hnc : nc + 0 ≤ 100) (hns : ns + 0 ≤ 3000) (hW : LW g X N sc) (hi : i + 6 ≤ N) (R : Rel I J q) (K : CAN I J) (kk : ∀ I2 J2 q2, Rel I2 J2 q2 → zZ g X nc ns (zst I2 J2 q2) 1571 (lwL i) []) : zZ g X nc ns (zst I J q) 509 (lwL i) [] := by
  obtain ⟨a, p5, hv, h5, k5⟩ := pr_says (g := g) R K (ar_r sc (i + 1)) (ar_r sc (i + 2))
  obtain ⟨x, hx⟩ := hv
  subst hx
  refine z_aload_n C 2 rfl dL_law_509 rfl ?_
  refine z_arg C hW 1 dL_law_510 dL_law_511 dL_law_512 dL_law_513 dL_law_514 (by omega) ?_
  refine z_arg C hW 2 dL_law_515 dL_law_516 dL_law_517 dL_law_518 dL_law_519 (by omega) ?_
  show zZ g X _ _ _ 520 (lwL i) (([.int (iI (ar sc (i + 1))), .int (iI (ar sc (i + 2)))] : List Value).reverse ++ .ref 0 :: [])
  refine zZ_callV C oX5_says iX5_says eX5_says lkL_45 (ci := 5) (k := 8) rfl (by decide) rfl rfl h5 rfl (by decide) hnc hns (Nat.le_of_ble_eq_true rfl) dL_law_520 (fun r σ' hr => ?_)
  obtain ⟨hr, hLay, p6, h6, k6⟩ := k5 r σ' hr
  subst hr
  show zZ g X nc ns σ' 523 (lwL i) [.int x]
  refine z_aload_n C 1 rfl dL_law_523 rfl ?_
  refine z_arg C hW 1 dL_law_524 dL_law_525 dL_law_526 dL_law_527 dL_law_528 (by omega) ?_
  refine z_arg C hW 2 dL_law_529 dL_law_530 dL_law_531 dL_law_532 dL_law_533 (by omega) ?_
  show zZ g X _ _ _ 534 (lwL i) (([.int (iI (ar sc (i + 1))), .int (iI (ar sc (i + 2)))] : List Value).reverse ++ .ref 58 :: [.int x])
  refine zZ_callV C oX6_says iX6_says eX6_says lkL_48 (ci := 6) (k := 30) (by rw [hLay]; rfl) (by decide) rfl rfl h6 rfl (by decide) hnc hns (Nat.le_of_ble_eq_true rfl) dL_law_534 (fun r2 σ2 hr2 => ?_)
  obtain ⟨hr2, I2, J2, q2, R2, hσ⟩ := k6 r2 σ2 hr2
  subst hr2
  subst hσ
  show zZ g X nc ns (zst I2 J2 q2) 537 (lwL i) [.int x, .int x]
  exact z_same C 1571 dL_law_537 (by decide) (kk I2 J2 q2 R2)
theorem lw_7 {g : zG} {X : zX} {mn : String} {nc ns N : Nat} {sc : Nat → Int32} {I : Nat → Nat → Int} {J : Nat → Nat → Int64} {q : Nat × Nat} {i : Nat} (C : zC g X (mL mn) 20 100 3000) (hnc : nc + 0 ≤ 100) (hns : ns + 0 ≤ 3000) (hW : LW g X N sc) (hi : i + 6 ≤ N) (R : Rel I J q) (K : CAN I J) (kk : ∀ I2 J2 q2, Rel I2 J2 q2 → zZ g X nc ns (zst I2 J2 q2) 1571 (lwL i) []) : zZ g X nc ns (zst I J q) 542 (lwL i) [] := by
  obtain ⟨a, p5, hv, h5, k5⟩ := pr_side (g := g) R K (ar_r sc (i + 1))
  obtain ⟨x, hx⟩ := hv
  subst hx
  refine z_aload_n C 2 rfl dL_law_542 rfl ?_
  refine z_arg C hW 1 dL_law_543 dL_law_544 dL_law_545 dL_law_546 dL_law_547 (by omega) ?_
  show zZ g X _ _ _ 548 (lwL i) (([.int (iI (ar sc (i + 1)))] : List Value).reverse ++ .ref 0 :: [])
  refine zZ_callV C oX5_side iX5_side eX5_side lkL_49 (ci := 5) (k := 8) rfl (by decide) rfl rfl h5 rfl (by decide) hnc hns (Nat.le_of_ble_eq_true rfl) dL_law_548 (fun r σ' hr => ?_)
  obtain ⟨hr, hLay, p6, h6, k6⟩ := k5 r σ' hr
  subst hr
  show zZ g X nc ns σ' 551 (lwL i) [.int x]
  refine z_aload_n C 1 rfl dL_law_551 rfl ?_
  refine z_arg C hW 1 dL_law_552 dL_law_553 dL_law_554 dL_law_555 dL_law_556 (by omega) ?_
  show zZ g X _ _ _ 557 (lwL i) (([.int (iI (ar sc (i + 1)))] : List Value).reverse ++ .ref 58 :: [.int x])
  refine zZ_callV C oX6_side iX6_side eX6_side lkL_52 (ci := 6) (k := 30) (by rw [hLay]; rfl) (by decide) rfl rfl h6 rfl (by decide) hnc hns (Nat.le_of_ble_eq_true rfl) dL_law_557 (fun r2 σ2 hr2 => ?_)
  obtain ⟨hr2, I2, J2, q2, R2, hσ⟩ := k6 r2 σ2 hr2
  subst hr2
  subst hσ
  show zZ g X nc ns (zst I2 J2 q2) 560 (lwL i) [.int x, .int x]
  exact z_same C 1571 dL_law_560 (by decide) (kk I2 J2 q2 R2)
theorem lw_8 {g : zG} {X : zX} {mn : String} {nc ns N : Nat} {sc : Nat → Int32} {I : Nat → Nat → Int} {J : Nat → Nat → Int64} {q : Nat × Nat} {i : Nat} (C : zC g X (mL mn) 20 100 3000) (hnc : nc + 0 ≤ 100) (hns : ns + 0 ≤ 3000) (hW : LW g X N sc) (hi : i + 6 ≤ N) (R : Rel I J q) (K : CAN I J) (kk : ∀ I2 J2 q2, Rel I2 J2 q2 → zZ g X nc ns (zst I2 J2 q2) 1571 (lwL i) []) : zZ g X nc ns (zst I J q) 565 (lwL i) [] := by
  by_cases hb : ar sc (i + 2) = 0
  · obtain ⟨a, p5, hv, h5, k5⟩ := pr_wall (g := g) (b := false) R K (ar_r sc (i + 1))
    obtain ⟨x, hx⟩ := hv
    subst hx
    refine z_aload_n C 2 rfl dL_law_565 rfl ?_
    refine z_arg C hW 1 dL_law_566 dL_law_567 dL_law_568 dL_law_569 dL_law_570 (by omega) ?_
    refine z_arg C hW 2 dL_law_571 dL_law_572 dL_law_573 dL_law_574 dL_law_575 (by omega) ?_
    refine z_if_eq C 583 dL_law_576 (by decide) (ar_r sc _) (fun _ => ?_) (fun hh => absurd hb hh)
    refine z_iconst C dL_law_583 ?_
    show zZ g X _ _ _ 584 (lwL i) (([.int (iI (ar sc (i + 1))), .int (iI (bI false))] : List Value).reverse ++ .ref 0 :: [])
    refine zZ_callV C oX5_wall iX5_wall eX5_wall lkL_53 (ci := 5) (k := 8) rfl (by decide) rfl rfl h5 rfl (by decide) hnc hns (Nat.le_of_ble_eq_true rfl) dL_law_584 (fun r σ' hr => ?_)
    obtain ⟨hr, hLay, p6, h6, k6⟩ := k5 r σ' hr
    subst hr
    show zZ g X nc ns σ' 587 (lwL i) [.int x]
    refine z_aload_n C 1 rfl dL_law_587 rfl ?_
    refine z_arg C hW 1 dL_law_588 dL_law_589 dL_law_590 dL_law_591 dL_law_592 (by omega) ?_
    refine z_arg C hW 2 dL_law_593 dL_law_594 dL_law_595 dL_law_596 dL_law_597 (by omega) ?_
    refine z_if_eq C 605 dL_law_598 (by decide) (ar_r sc _) (fun _ => ?_) (fun hh => absurd hb hh)
    refine z_iconst C dL_law_605 ?_
    show zZ g X _ _ _ 606 (lwL i) (([.int (iI (ar sc (i + 1))), .int (iI (bI false))] : List Value).reverse ++ .ref 58 :: [.int x])
    refine zZ_callV C oX6_wall iX6_wall eX6_wall lkL_57 (ci := 6) (k := 30) (by rw [hLay]; rfl) (by decide) rfl rfl h6 rfl (by decide) hnc hns (Nat.le_of_ble_eq_true rfl) dL_law_606 (fun r2 σ2 hr2 => ?_)
    obtain ⟨hr2, I2, J2, q2, R2, hσ⟩ := k6 r2 σ2 hr2
    subst hr2
    subst hσ
    show zZ g X nc ns (zst I2 J2 q2) 609 (lwL i) [.int x, .int x]
    exact z_same C 1571 dL_law_609 (by decide) (kk I2 J2 q2 R2)
  · obtain ⟨a, p5, hv, h5, k5⟩ := pr_wall (g := g) (b := true) R K (ar_r sc (i + 1))
    obtain ⟨x, hx⟩ := hv
    subst hx
    refine z_aload_n C 2 rfl dL_law_565 rfl ?_
    refine z_arg C hW 1 dL_law_566 dL_law_567 dL_law_568 dL_law_569 dL_law_570 (by omega) ?_
    refine z_arg C hW 2 dL_law_571 dL_law_572 dL_law_573 dL_law_574 dL_law_575 (by omega) ?_
    refine z_if_eq C 583 dL_law_576 (by decide) (ar_r sc _) (fun hh => absurd hh hb) (fun _ => ?_)
    refine z_iconst C dL_law_579 ?_
    refine z_goto C 584 dL_law_580 (by decide) ?_
    show zZ g X _ _ _ 584 (lwL i) (([.int (iI (ar sc (i + 1))), .int (iI (bI true))] : List Value).reverse ++ .ref 0 :: [])
    refine zZ_callV C oX5_wall iX5_wall eX5_wall lkL_53 (ci := 5) (k := 8) rfl (by decide) rfl rfl h5 rfl (by decide) hnc hns (Nat.le_of_ble_eq_true rfl) dL_law_584 (fun r σ' hr => ?_)
    obtain ⟨hr, hLay, p6, h6, k6⟩ := k5 r σ' hr
    subst hr
    show zZ g X nc ns σ' 587 (lwL i) [.int x]
    refine z_aload_n C 1 rfl dL_law_587 rfl ?_
    refine z_arg C hW 1 dL_law_588 dL_law_589 dL_law_590 dL_law_591 dL_law_592 (by omega) ?_
    refine z_arg C hW 2 dL_law_593 dL_law_594 dL_law_595 dL_law_596 dL_law_597 (by omega) ?_
    refine z_if_eq C 605 dL_law_598 (by decide) (ar_r sc _) (fun hh => absurd hh hb) (fun _ => ?_)
    refine z_iconst C dL_law_601 ?_
    refine z_goto C 606 dL_law_602 (by decide) ?_
    show zZ g X _ _ _ 606 (lwL i) (([.int (iI (ar sc (i + 1))), .int (iI (bI true))] : List Value).reverse ++ .ref 58 :: [.int x])
    refine zZ_callV C oX6_wall iX6_wall eX6_wall lkL_57 (ci := 6) (k := 30) (by rw [hLay]; rfl) (by decide) rfl rfl h6 rfl (by decide) hnc hns (Nat.le_of_ble_eq_true rfl) dL_law_606 (fun r2 σ2 hr2 => ?_)
    obtain ⟨hr2, I2, J2, q2, R2, hσ⟩ := k6 r2 σ2 hr2
    subst hr2
    subst hσ
    show zZ g X nc ns (zst I2 J2 q2) 609 (lwL i) [.int x, .int x]
    exact z_same C 1571 dL_law_609 (by decide) (kk I2 J2 q2 R2)
theorem lw_9 {g : zG} {X : zX} {mn : String} {nc ns N : Nat} {sc : Nat → Int32} {I : Nat → Nat → Int} {J : Nat → Nat → Int64} {q : Nat × Nat} {i : Nat} (C : zC g X (mL mn) 20 100 3000) (hnc : nc + 0 ≤ 100) (hns : ns + 0 ≤ 3000) (hW : LW g X N sc) (hi : i + 6 ≤ N) (R : Rel I J q) (K : CAN I J) (kk : ∀ I2 J2 q2, Rel I2 J2 q2 → zZ g X nc ns (zst I2 J2 q2) 1571 (lwL i) []) : zZ g X nc ns (zst I J q) 614 (lwL i) [] := by
  obtain ⟨a, p5, hv, h5, k5⟩ := pr_pen (g := g) R K (ar_r sc (i + 1))
  obtain ⟨x, hx⟩ := hv
  subst hx
  refine z_aload_n C 2 rfl dL_law_614 rfl ?_
  refine z_arg C hW 1 dL_law_615 dL_law_616 dL_law_617 dL_law_618 dL_law_619 (by omega) ?_
  show zZ g X _ _ _ 620 (lwL i) (([.int (iI (ar sc (i + 1)))] : List Value).reverse ++ .ref 0 :: [])
  refine zZ_callV C oX5_pen iX5_pen eX5_pen lkL_58 (ci := 5) (k := 8) rfl (by decide) rfl rfl h5 rfl (by decide) hnc hns (Nat.le_of_ble_eq_true rfl) dL_law_620 (fun r σ' hr => ?_)
  obtain ⟨hr, hLay, p6, h6, k6⟩ := k5 r σ' hr
  subst hr
  show zZ g X nc ns σ' 623 (lwL i) [.int x]
  refine z_aload_n C 1 rfl dL_law_623 rfl ?_
  refine z_arg C hW 1 dL_law_624 dL_law_625 dL_law_626 dL_law_627 dL_law_628 (by omega) ?_
  show zZ g X _ _ _ 629 (lwL i) (([.int (iI (ar sc (i + 1)))] : List Value).reverse ++ .ref 58 :: [.int x])
  refine zZ_callV C oX6_pen iX6_pen eX6_pen lkL_61 (ci := 6) (k := 30) (by rw [hLay]; rfl) (by decide) rfl rfl h6 rfl (by decide) hnc hns (Nat.le_of_ble_eq_true rfl) dL_law_629 (fun r2 σ2 hr2 => ?_)
  obtain ⟨hr2, I2, J2, q2, R2, hσ⟩ := k6 r2 σ2 hr2
  subst hr2
  subst hσ
  show zZ g X nc ns (zst I2 J2 q2) 632 (lwL i) [.int x, .int x]
  exact z_same C 1571 dL_law_632 (by decide) (kk I2 J2 q2 R2)
theorem lw_10 {g : zG} {X : zX} {mn : String} {nc ns N : Nat} {sc : Nat → Int32} {I : Nat → Nat → Int} {J : Nat → Nat → Int64} {q : Nat × Nat} {i : Nat} (C : zC g X (mL mn) 20 100 3000) (hnc : nc + 0 ≤ 100) (hns : ns + 0 ≤ 3000) (hW : LW g X N sc) (hi : i + 6 ≤ N) (R : Rel I J q) (K : CAN I J) (kk : ∀ I2 J2 q2, Rel I2 J2 q2 → zZ g X nc ns (zst I2 J2 q2) 1571 (lwL i) []) : zZ g X nc ns (zst I J q) 637 (lwL i) [] := by
  obtain ⟨a, p5, hv, h5, k5⟩ := pr_dog (g := g) R K (ar_r sc (i + 1))
  obtain ⟨x, hx⟩ := hv
  subst hx
  refine z_aload_n C 2 rfl dL_law_637 rfl ?_
  refine z_arg C hW 1 dL_law_638 dL_law_639 dL_law_640 dL_law_641 dL_law_642 (by omega) ?_
  show zZ g X _ _ _ 643 (lwL i) (([.int (iI (ar sc (i + 1)))] : List Value).reverse ++ .ref 0 :: [])
  refine zZ_callV C oX5_dog iX5_dog eX5_dog lkL_62 (ci := 5) (k := 8) rfl (by decide) rfl rfl h5 rfl (by decide) hnc hns (Nat.le_of_ble_eq_true rfl) dL_law_643 (fun r σ' hr => ?_)
  obtain ⟨hr, hLay, p6, h6, k6⟩ := k5 r σ' hr
  subst hr
  show zZ g X nc ns σ' 646 (lwL i) [.int x]
  refine z_aload_n C 1 rfl dL_law_646 rfl ?_
  refine z_arg C hW 1 dL_law_647 dL_law_648 dL_law_649 dL_law_650 dL_law_651 (by omega) ?_
  show zZ g X _ _ _ 652 (lwL i) (([.int (iI (ar sc (i + 1)))] : List Value).reverse ++ .ref 58 :: [.int x])
  refine zZ_callV C oX6_dog iX6_dog eX6_dog lkL_65 (ci := 6) (k := 30) (by rw [hLay]; rfl) (by decide) rfl rfl h6 rfl (by decide) hnc hns (Nat.le_of_ble_eq_true rfl) dL_law_652 (fun r2 σ2 hr2 => ?_)
  obtain ⟨hr2, I2, J2, q2, R2, hσ⟩ := k6 r2 σ2 hr2
  subst hr2
  subst hσ
  show zZ g X nc ns (zst I2 J2 q2) 655 (lwL i) [.int x, .int x]
  exact z_same C 1571 dL_law_655 (by decide) (kk I2 J2 q2 R2)
theorem lw_11 {g : zG} {X : zX} {mn : String} {nc ns N : Nat} {sc : Nat → Int32} {I : Nat → Nat → Int} {J : Nat → Nat → Int64} {q : Nat × Nat} {i : Nat} (C : zC g X (mL mn) 20 100 3000) (hnc : nc + 0 ≤ 100) (hns : ns + 0 ≤ 3000) (hW : LW g X N sc) (hi : i + 6 ≤ N) (R : Rel I J q) (K : CAN I J) (kk : ∀ I2 J2 q2, Rel I2 J2 q2 → zZ g X nc ns (zst I2 J2 q2) 1571 (lwL i) []) : zZ g X nc ns (zst I J q) 660 (lwL i) [] := by
  obtain ⟨a, p5, hv, h5, k5⟩ := pr_ewe (g := g) R K (ar_r sc (i + 1)) (ar_r sc (i + 2)) (ar_r sc (i + 3))
  obtain ⟨x, hx⟩ := hv
  subst hx
  refine z_aload_n C 2 rfl dL_law_660 rfl ?_
  refine z_arg C hW 1 dL_law_661 dL_law_662 dL_law_663 dL_law_664 dL_law_665 (by omega) ?_
  refine z_arg C hW 2 dL_law_666 dL_law_667 dL_law_668 dL_law_669 dL_law_670 (by omega) ?_
  refine z_arg C hW 3 dL_law_671 dL_law_672 dL_law_673 dL_law_674 dL_law_675 (by omega) ?_
  show zZ g X _ _ _ 676 (lwL i) (([.int (iI (ar sc (i + 1))), .int (iI (ar sc (i + 2))), .int (iI (ar sc (i + 3)))] : List Value).reverse ++ .ref 0 :: [])
  refine zZ_callV C oX5_ewe iX5_ewe eX5_ewe lkL_66 (ci := 5) (k := 8) rfl (by decide) rfl rfl h5 rfl (by decide) hnc hns (Nat.le_of_ble_eq_true rfl) dL_law_676 (fun r σ' hr => ?_)
  obtain ⟨hr, hLay, p6, h6, k6⟩ := k5 r σ' hr
  subst hr
  show zZ g X nc ns σ' 679 (lwL i) [.int x]
  refine z_aload_n C 1 rfl dL_law_679 rfl ?_
  refine z_arg C hW 1 dL_law_680 dL_law_681 dL_law_682 dL_law_683 dL_law_684 (by omega) ?_
  refine z_arg C hW 2 dL_law_685 dL_law_686 dL_law_687 dL_law_688 dL_law_689 (by omega) ?_
  refine z_arg C hW 3 dL_law_690 dL_law_691 dL_law_692 dL_law_693 dL_law_694 (by omega) ?_
  show zZ g X _ _ _ 695 (lwL i) (([.int (iI (ar sc (i + 1))), .int (iI (ar sc (i + 2))), .int (iI (ar sc (i + 3)))] : List Value).reverse ++ .ref 58 :: [.int x])
  refine zZ_callV C oX6_ewe iX6_ewe eX6_ewe lkL_69 (ci := 6) (k := 30) (by rw [hLay]; rfl) (by decide) rfl rfl h6 rfl (by decide) hnc hns (Nat.le_of_ble_eq_true rfl) dL_law_695 (fun r2 σ2 hr2 => ?_)
  obtain ⟨hr2, I2, J2, q2, R2, hσ⟩ := k6 r2 σ2 hr2
  subst hr2
  subst hσ
  show zZ g X nc ns (zst I2 J2 q2) 698 (lwL i) [.int x, .int x]
  exact z_same C 1571 dL_law_698 (by decide) (kk I2 J2 q2 R2)
theorem lw_12 {g : zG} {X : zX} {mn : String} {nc ns N : Nat} {sc : Nat → Int32} {I : Nat → Nat → Int} {J : Nat → Nat → Int64} {q : Nat × Nat} {i : Nat} (C : zC g X (mL mn) 20 100 3000) (hnc : nc + 0 ≤ 100) (hns : ns + 0 ≤ 3000) (hW : LW g X N sc) (hi : i + 6 ≤ N) (R : Rel I J q) (K : CAN I J) (kk : ∀ I2 J2 q2, Rel I2 J2 q2 → zZ g X nc ns (zst I2 J2 q2) 1571 (lwL i) []) : zZ g X nc ns (zst I J q) 703 (lwL i) [] := by
  obtain ⟨a, p5, hv, h5, k5⟩ := pr_move (g := g) R K (ar_r sc (i + 1)) (ar_r sc (i + 2))
  obtain ⟨x, hx⟩ := hv
  subst hx
  refine z_aload_n C 2 rfl dL_law_703 rfl ?_
  refine z_arg C hW 1 dL_law_704 dL_law_705 dL_law_706 dL_law_707 dL_law_708 (by omega) ?_
  refine z_arg C hW 2 dL_law_709 dL_law_710 dL_law_711 dL_law_712 dL_law_713 (by omega) ?_
  show zZ g X _ _ _ 714 (lwL i) (([.int (iI (ar sc (i + 1))), .int (iI (ar sc (i + 2)))] : List Value).reverse ++ .ref 0 :: [])
  refine zZ_callV C oX5_move iX5_move eX5_move lkL_70 (ci := 5) (k := 8) rfl (by decide) rfl rfl h5 rfl (by decide) hnc hns (Nat.le_of_ble_eq_true rfl) dL_law_714 (fun r σ' hr => ?_)
  obtain ⟨hr, hLay, p6, h6, k6⟩ := k5 r σ' hr
  subst hr
  show zZ g X nc ns σ' 717 (lwL i) [.int x]
  refine z_aload_n C 1 rfl dL_law_717 rfl ?_
  refine z_arg C hW 1 dL_law_718 dL_law_719 dL_law_720 dL_law_721 dL_law_722 (by omega) ?_
  refine z_arg C hW 2 dL_law_723 dL_law_724 dL_law_725 dL_law_726 dL_law_727 (by omega) ?_
  show zZ g X _ _ _ 728 (lwL i) (([.int (iI (ar sc (i + 1))), .int (iI (ar sc (i + 2)))] : List Value).reverse ++ .ref 58 :: [.int x])
  refine zZ_callV C oX6_move iX6_move eX6_move lkL_73 (ci := 6) (k := 30) (by rw [hLay]; rfl) (by decide) rfl rfl h6 rfl (by decide) hnc hns (Nat.le_of_ble_eq_true rfl) dL_law_728 (fun r2 σ2 hr2 => ?_)
  obtain ⟨hr2, I2, J2, q2, R2, hσ⟩ := k6 r2 σ2 hr2
  subst hr2
  subst hσ
  show zZ g X nc ns (zst I2 J2 q2) 731 (lwL i) [.int x, .int x]
  exact z_same C 1571 dL_law_731 (by decide) (kk I2 J2 q2 R2)
theorem lw_13 {g : zG} {X : zX} {mn : String} {nc ns N : Nat} {sc : Nat → Int32} {I : Nat → Nat → Int} {J : Nat → Nat → Int64} {q : Nat × Nat} {i : Nat} (C : zC g X (mL mn) 20 100 3000) (hnc : nc + 0 ≤ 100) (hns : ns + 0 ≤ 3000) (hW : LW g X N sc) (hi : i + 6 ≤ N) (R : Rel I J q) (K : CAN I J) (kk : ∀ I2 J2 q2, Rel I2 J2 q2 → zZ g X nc ns (zst I2 J2 q2) 1571 (lwL i) []) : zZ g X nc ns (zst I J q) 736 (lwL i) [] := by
  obtain ⟨a, p5, hv, h5, k5⟩ := pr_wind (g := g) R K (ar_r sc (i + 1))
  obtain ⟨x, hx⟩ := hv
  subst hx
  refine z_aload_n C 2 rfl dL_law_736 rfl ?_
  refine z_arg C hW 1 dL_law_737 dL_law_738 dL_law_739 dL_law_740 dL_law_741 (by omega) ?_
  show zZ g X _ _ _ 742 (lwL i) (([.int (iI (ar sc (i + 1)))] : List Value).reverse ++ .ref 0 :: [])
  refine zZ_callV C oX5_wind iX5_wind eX5_wind lkL_74 (ci := 5) (k := 8) rfl (by decide) rfl rfl h5 rfl (by decide) hnc hns (Nat.le_of_ble_eq_true rfl) dL_law_742 (fun r σ' hr => ?_)
  obtain ⟨hr, hLay, p6, h6, k6⟩ := k5 r σ' hr
  subst hr
  show zZ g X nc ns σ' 745 (lwL i) [.int x]
  refine z_aload_n C 1 rfl dL_law_745 rfl ?_
  refine z_arg C hW 1 dL_law_746 dL_law_747 dL_law_748 dL_law_749 dL_law_750 (by omega) ?_
  show zZ g X _ _ _ 751 (lwL i) (([.int (iI (ar sc (i + 1)))] : List Value).reverse ++ .ref 58 :: [.int x])
  refine zZ_callV C oX6_wind iX6_wind eX6_wind lkL_77 (ci := 6) (k := 30) (by rw [hLay]; rfl) (by decide) rfl rfl h6 rfl (by decide) hnc hns (Nat.le_of_ble_eq_true rfl) dL_law_751 (fun r2 σ2 hr2 => ?_)
  obtain ⟨hr2, I2, J2, q2, R2, hσ⟩ := k6 r2 σ2 hr2
  subst hr2
  subst hσ
  show zZ g X nc ns (zst I2 J2 q2) 754 (lwL i) [.int x, .int x]
  exact z_same C 1571 dL_law_754 (by decide) (kk I2 J2 q2 R2)
theorem lw_14 {g : zG} {X : zX} {mn : String} {nc ns N : Nat} {sc : Nat → Int32} {I : Nat → Nat → Int} {J : Nat → Nat → Int64} {q : Nat × Nat} {i : Nat} (C : zC g X (mL mn) 20 100 3000) (hnc : nc + 0 ≤ 100) (hns : ns + 0 ≤ 3000) (hW : LW g X N sc) (hi : i + 6 ≤ N) (R : Rel I J q) (K : CAN I J) (kk : ∀ I2 J2 q2, Rel I2 J2 q2 → zZ g X nc ns (zst I2 J2 q2) 1571 (lwL i) []) : zZ g X nc ns (zst I J q) 759 (lwL i) [] := by
  obtain ⟨a, p5, hv, h5, k5⟩ := pr_feed (g := g) R K (ar_r sc (i + 1))
  obtain ⟨x, hx⟩ := hv
  subst hx
  refine z_aload_n C 2 rfl dL_law_759 rfl ?_
  refine z_arg C hW 1 dL_law_760 dL_law_761 dL_law_762 dL_law_763 dL_law_764 (by omega) ?_
  show zZ g X _ _ _ 765 (lwL i) (([.int (iI (ar sc (i + 1)))] : List Value).reverse ++ .ref 0 :: [])
  refine zZ_callV C oX5_feed iX5_feed eX5_feed lkL_78 (ci := 5) (k := 8) rfl (by decide) rfl rfl h5 rfl (by decide) hnc hns (Nat.le_of_ble_eq_true rfl) dL_law_765 (fun r σ' hr => ?_)
  obtain ⟨hr, hLay, p6, h6, k6⟩ := k5 r σ' hr
  subst hr
  show zZ g X nc ns σ' 768 (lwL i) [.int x]
  refine z_aload_n C 1 rfl dL_law_768 rfl ?_
  refine z_arg C hW 1 dL_law_769 dL_law_770 dL_law_771 dL_law_772 dL_law_773 (by omega) ?_
  show zZ g X _ _ _ 774 (lwL i) (([.int (iI (ar sc (i + 1)))] : List Value).reverse ++ .ref 58 :: [.int x])
  refine zZ_callV C oX6_feed iX6_feed eX6_feed lkL_81 (ci := 6) (k := 30) (by rw [hLay]; rfl) (by decide) rfl rfl h6 rfl (by decide) hnc hns (Nat.le_of_ble_eq_true rfl) dL_law_774 (fun r2 σ2 hr2 => ?_)
  obtain ⟨hr2, I2, J2, q2, R2, hσ⟩ := k6 r2 σ2 hr2
  subst hr2
  subst hσ
  show zZ g X nc ns (zst I2 J2 q2) 777 (lwL i) [.int x, .int x]
  exact z_same C 1571 dL_law_777 (by decide) (kk I2 J2 q2 R2)
theorem lw_15 {g : zG} {X : zX} {mn : String} {nc ns N : Nat} {sc : Nat → Int32} {I : Nat → Nat → Int} {J : Nat → Nat → Int64} {q : Nat × Nat} {i : Nat} (C : zC g X (mL mn) 20 100 3000) (hnc : nc + 0 ≤ 100) (hns : ns + 0 ≤ 3000) (hW : LW g X N sc) (hi : i + 6 ≤ N) (R : Rel I J q) (K : CAN I J) (kk : ∀ I2 J2 q2, Rel I2 J2 q2 → zZ g X nc ns (zst I2 J2 q2) 1571 (lwL i) []) : zZ g X nc ns (zst I J q) 782 (lwL i) [] := by
  obtain ⟨a, p5, hv, h5, k5⟩ := pr_wipe (g := g) R K 
  obtain ⟨x, hx⟩ := hv
  subst hx
  refine z_aload_n C 2 rfl dL_law_782 rfl ?_
  show zZ g X _ _ _ 783 (lwL i) (([] : List Value).reverse ++ .ref 0 :: [])
  refine zZ_callV C oX5_wipe iX5_wipe eX5_wipe lkL_82 (ci := 5) (k := 8) rfl (by decide) rfl rfl h5 rfl (by decide) hnc hns (Nat.le_of_ble_eq_true rfl) dL_law_783 (fun r σ' hr => ?_)
  obtain ⟨hr, hLay, p6, h6, k6⟩ := k5 r σ' hr
  subst hr
  show zZ g X nc ns σ' 786 (lwL i) [.int x]
  refine z_aload_n C 1 rfl dL_law_786 rfl ?_
  show zZ g X _ _ _ 787 (lwL i) (([] : List Value).reverse ++ .ref 58 :: [.int x])
  refine zZ_callV C oX6_wipe iX6_wipe eX6_wipe lkL_86 (ci := 6) (k := 30) (by rw [hLay]; rfl) (by decide) rfl rfl h6 rfl (by decide) hnc hns (Nat.le_of_ble_eq_true rfl) dL_law_787 (fun r2 σ2 hr2 => ?_)
  obtain ⟨hr2, I2, J2, q2, R2, hσ⟩ := k6 r2 σ2 hr2
  subst hr2
  subst hσ
  show zZ g X nc ns (zst I2 J2 q2) 790 (lwL i) [.int x, .int x]
  exact z_same C 1571 dL_law_790 (by decide) (kk I2 J2 q2 R2)
theorem lw_16 {g : zG} {X : zX} {mn : String} {nc ns N : Nat} {sc : Nat → Int32} {I : Nat → Nat → Int} {J : Nat → Nat → Int64} {q : Nat × Nat} {i : Nat} (C : zC g X (mL mn) 20 100 3000) (hnc : nc + 0 ≤ 100) (hns : ns + 0 ≤ 3000) (hW : LW g X N sc) (hi : i + 6 ≤ N) (R : Rel I J q) (K : CAN I J) (kk : ∀ I2 J2 q2, Rel I2 J2 q2 → zZ g X nc ns (zst I2 J2 q2) 1571 (lwL i) []) : zZ g X nc ns (zst I J q) 795 (lwL i) [] := by
  obtain ⟨a, p5, hv, h5, k5⟩ := pr_hill (g := g) R K 
  obtain ⟨x, hx⟩ := hv
  subst hx
  refine z_aload_n C 2 rfl dL_law_795 rfl ?_
  show zZ g X _ _ _ 796 (lwL i) (([] : List Value).reverse ++ .ref 0 :: [])
  refine zZ_callV C oX5_hill iX5_hill eX5_hill lkL_87 (ci := 5) (k := 8) rfl (by decide) rfl rfl h5 rfl (by decide) hnc hns (Nat.le_of_ble_eq_true rfl) dL_law_796 (fun r σ' hr => ?_)
  obtain ⟨hr, hLay, p6, h6, k6⟩ := k5 r σ' hr
  subst hr
  show zZ g X nc ns σ' 799 (lwL i) [.int x]
  refine z_aload_n C 1 rfl dL_law_799 rfl ?_
  show zZ g X _ _ _ 800 (lwL i) (([] : List Value).reverse ++ .ref 58 :: [.int x])
  refine zZ_callV C oX6_hill iX6_hill eX6_hill lkL_90 (ci := 6) (k := 30) (by rw [hLay]; rfl) (by decide) rfl rfl h6 rfl (by decide) hnc hns (Nat.le_of_ble_eq_true rfl) dL_law_800 (fun r2 σ2 hr2 => ?_)
  obtain ⟨hr2, I2, J2, q2, R2, hσ⟩ := k6 r2 σ2 hr2
  subst hr2
  subst hσ
  show zZ g X nc ns (zst I2 J2 q2) 803 (lwL i) [.int x, .int x]
  exact z_same C 1571 dL_law_803 (by decide) (kk I2 J2 q2 R2)
theorem lw_17 {g : zG} {X : zX} {mn : String} {nc ns N : Nat} {sc : Nat → Int32} {I : Nat → Nat → Int} {J : Nat → Nat → Int64} {q : Nat × Nat} {i : Nat} (C : zC g X (mL mn) 20 100 3000) (hnc : nc + 0 ≤ 100) (hns : ns + 0 ≤ 3000) (hW : LW g X N sc) (hi : i + 6 ≤ N) (R : Rel I J q) (K : CAN I J) (kk : ∀ I2 J2 q2, Rel I2 J2 q2 → zZ g X nc ns (zst I2 J2 q2) 1571 (lwL i) []) : zZ g X nc ns (zst I J q) 808 (lwL i) [] := by
  obtain ⟨a, p5, hv, h5, k5⟩ := pr_eweOf (g := g) R K (ar_r sc (i + 1)) (ar_r sc (i + 2))
  obtain ⟨x, hx⟩ := hv
  subst hx
  refine z_aload_n C 2 rfl dL_law_808 rfl ?_
  refine z_arg C hW 1 dL_law_809 dL_law_810 dL_law_811 dL_law_812 dL_law_813 (by omega) ?_
  refine z_arg C hW 2 dL_law_814 dL_law_815 dL_law_816 dL_law_817 dL_law_818 (by omega) ?_
  show zZ g X _ _ _ 819 (lwL i) (([.int (iI (ar sc (i + 1))), .int (iI (ar sc (i + 2)))] : List Value).reverse ++ .ref 0 :: [])
  refine zZ_callV C oX5_eweOf iX5_eweOf eX5_eweOf lkL_91 (ci := 5) (k := 8) rfl (by decide) rfl rfl h5 rfl (by decide) hnc hns (Nat.le_of_ble_eq_true rfl) dL_law_819 (fun r σ' hr => ?_)
  obtain ⟨hr, hLay, p6, h6, k6⟩ := k5 r σ' hr
  subst hr
  show zZ g X nc ns σ' 822 (lwL i) [.int x]
  refine z_aload_n C 1 rfl dL_law_822 rfl ?_
  refine z_arg C hW 1 dL_law_823 dL_law_824 dL_law_825 dL_law_826 dL_law_827 (by omega) ?_
  refine z_arg C hW 2 dL_law_828 dL_law_829 dL_law_830 dL_law_831 dL_law_832 (by omega) ?_
  show zZ g X _ _ _ 833 (lwL i) (([.int (iI (ar sc (i + 1))), .int (iI (ar sc (i + 2)))] : List Value).reverse ++ .ref 58 :: [.int x])
  refine zZ_callV C oX6_eweOf iX6_eweOf eX6_eweOf lkL_94 (ci := 6) (k := 30) (by rw [hLay]; rfl) (by decide) rfl rfl h6 rfl (by decide) hnc hns (Nat.le_of_ble_eq_true rfl) dL_law_833 (fun r2 σ2 hr2 => ?_)
  obtain ⟨hr2, I2, J2, q2, R2, hσ⟩ := k6 r2 σ2 hr2
  subst hr2
  subst hσ
  show zZ g X nc ns (zst I2 J2 q2) 836 (lwL i) [.int x, .int x]
  exact z_same C 1571 dL_law_836 (by decide) (kk I2 J2 q2 R2)
theorem lw_18 {g : zG} {X : zX} {mn : String} {nc ns N : Nat} {sc : Nat → Int32} {I : Nat → Nat → Int} {J : Nat → Nat → Int64} {q : Nat × Nat} {i : Nat} (C : zC g X (mL mn) 20 100 3000) (hnc : nc + 0 ≤ 100) (hns : ns + 0 ≤ 3000) (hW : LW g X N sc) (hi : i + 6 ≤ N) (R : Rel I J q) (K : CAN I J) (kk : ∀ I2 J2 q2, Rel I2 J2 q2 → zZ g X nc ns (zst I2 J2 q2) 1571 (lwL i) []) : zZ g X nc ns (zst I J q) 841 (lwL i) [] := by
  obtain ⟨a, p5, hv, h5, k5⟩ := pr_hasWall (g := g) R K (ar_r sc (i + 1))
  obtain ⟨x, hx⟩ := hv
  subst hx
  refine z_aload_n C 2 rfl dL_law_841 rfl ?_
  refine z_arg C hW 1 dL_law_842 dL_law_843 dL_law_844 dL_law_845 dL_law_846 (by omega) ?_
  show zZ g X _ _ _ 847 (lwL i) (([.int (iI (ar sc (i + 1)))] : List Value).reverse ++ .ref 0 :: [])
  refine zZ_callV C oX5_hasWall iX5_hasWall eX5_hasWall lkL_95 (ci := 5) (k := 8) rfl (by decide) rfl rfl h5 rfl (by decide) hnc hns (Nat.le_of_ble_eq_true rfl) dL_law_847 (fun r σ' hr => ?_)
  obtain ⟨hr, hLay, p6, h6, k6⟩ := k5 r σ' hr
  subst hr
  show zZ g X nc ns σ' 850 (lwL i) [.int x]
  refine z_aload_n C 1 rfl dL_law_850 rfl ?_
  refine z_arg C hW 1 dL_law_851 dL_law_852 dL_law_853 dL_law_854 dL_law_855 (by omega) ?_
  show zZ g X _ _ _ 856 (lwL i) (([.int (iI (ar sc (i + 1)))] : List Value).reverse ++ .ref 58 :: [.int x])
  refine zZ_callV C oX6_hasWall iX6_hasWall eX6_hasWall lkL_98 (ci := 6) (k := 30) (by rw [hLay]; rfl) (by decide) rfl rfl h6 rfl (by decide) hnc hns (Nat.le_of_ble_eq_true rfl) dL_law_856 (fun r2 σ2 hr2 => ?_)
  obtain ⟨hr2, I2, J2, q2, R2, hσ⟩ := k6 r2 σ2 hr2
  subst hr2
  subst hσ
  show zZ g X nc ns (zst I2 J2 q2) 859 (lwL i) [.int x, .int x]
  exact z_same C 1571 dL_law_859 (by decide) (kk I2 J2 q2 R2)
theorem lw_19 {g : zG} {X : zX} {mn : String} {nc ns N : Nat} {sc : Nat → Int32} {I : Nat → Nat → Int} {J : Nat → Nat → Int64} {q : Nat × Nat} {i : Nat} (C : zC g X (mL mn) 20 100 3000) (hnc : nc + 0 ≤ 100) (hns : ns + 0 ≤ 3000) (hW : LW g X N sc) (hi : i + 6 ≤ N) (R : Rel I J q) (K : CAN I J) (kk : ∀ I2 J2 q2, Rel I2 J2 q2 → zZ g X nc ns (zst I2 J2 q2) 1571 (lwL i) []) : zZ g X nc ns (zst I J q) 864 (lwL i) [] := by
  obtain ⟨a, p5, hv, h5, k5⟩ := pr_fewest (g := g) R K (ar_r sc (i + 1)) (ar_r sc (i + 2))
  obtain ⟨x, hx⟩ := hv
  subst hx
  refine z_aload_n C 2 rfl dL_law_864 rfl ?_
  refine z_arg C hW 1 dL_law_865 dL_law_866 dL_law_867 dL_law_868 dL_law_869 (by omega) ?_
  refine z_arg C hW 2 dL_law_870 dL_law_871 dL_law_872 dL_law_873 dL_law_874 (by omega) ?_
  show zZ g X _ _ _ 875 (lwL i) (([.int (iI (ar sc (i + 1))), .int (iI (ar sc (i + 2)))] : List Value).reverse ++ .ref 0 :: [])
  refine zZ_callV C oX5_fewest iX5_fewest eX5_fewest lkL_99 (ci := 5) (k := 8) rfl (by decide) rfl rfl h5 rfl (by decide) hnc hns (Nat.le_of_ble_eq_true rfl) dL_law_875 (fun r σ' hr => ?_)
  obtain ⟨hr, hLay, p6, h6, k6⟩ := k5 r σ' hr
  subst hr
  show zZ g X nc ns σ' 878 (lwL i) [.int x]
  refine z_aload_n C 1 rfl dL_law_878 rfl ?_
  refine z_arg C hW 1 dL_law_879 dL_law_880 dL_law_881 dL_law_882 dL_law_883 (by omega) ?_
  refine z_arg C hW 2 dL_law_884 dL_law_885 dL_law_886 dL_law_887 dL_law_888 (by omega) ?_
  show zZ g X _ _ _ 889 (lwL i) (([.int (iI (ar sc (i + 1))), .int (iI (ar sc (i + 2)))] : List Value).reverse ++ .ref 58 :: [.int x])
  refine zZ_callV C oX6_fewest iX6_fewest eX6_fewest lkL_102 (ci := 6) (k := 30) (by rw [hLay]; rfl) (by decide) rfl rfl h6 rfl (by decide) hnc hns (Nat.le_of_ble_eq_true rfl) dL_law_889 (fun r2 σ2 hr2 => ?_)
  obtain ⟨hr2, I2, J2, q2, R2, hσ⟩ := k6 r2 σ2 hr2
  subst hr2
  subst hσ
  show zZ g X nc ns (zst I2 J2 q2) 892 (lwL i) [.int x, .int x]
  exact z_same C 1571 dL_law_892 (by decide) (kk I2 J2 q2 R2)
theorem lw_20 {g : zG} {X : zX} {mn : String} {nc ns N : Nat} {sc : Nat → Int32} {I : Nat → Nat → Int} {J : Nat → Nat → Int64} {q : Nat × Nat} {i : Nat} (C : zC g X (mL mn) 20 100 3000) (hnc : nc + 0 ≤ 100) (hns : ns + 0 ≤ 3000) (hW : LW g X N sc) (hi : i + 6 ≤ N) (R : Rel I J q) (K : CAN I J) (kk : ∀ I2 J2 q2, Rel I2 J2 q2 → zZ g X nc ns (zst I2 J2 q2) 1571 (lwL i) []) : zZ g X nc ns (zst I J q) 897 (lwL i) [] := by
  obtain ⟨a, p5, hv, h5, k5⟩ := pr_most (g := g) R K (ar_r sc (i + 1)) (ar_r sc (i + 2))
  obtain ⟨x, hx⟩ := hv
  subst hx
  refine z_aload_n C 2 rfl dL_law_897 rfl ?_
  refine z_arg C hW 1 dL_law_898 dL_law_899 dL_law_900 dL_law_901 dL_law_902 (by omega) ?_
  refine z_arg C hW 2 dL_law_903 dL_law_904 dL_law_905 dL_law_906 dL_law_907 (by omega) ?_
  show zZ g X _ _ _ 908 (lwL i) (([.int (iI (ar sc (i + 1))), .int (iI (ar sc (i + 2)))] : List Value).reverse ++ .ref 0 :: [])
  refine zZ_callV C oX5_most iX5_most eX5_most lkL_103 (ci := 5) (k := 8) rfl (by decide) rfl rfl h5 rfl (by decide) hnc hns (Nat.le_of_ble_eq_true rfl) dL_law_908 (fun r σ' hr => ?_)
  obtain ⟨hr, hLay, p6, h6, k6⟩ := k5 r σ' hr
  subst hr
  show zZ g X nc ns σ' 911 (lwL i) [.int x]
  refine z_aload_n C 1 rfl dL_law_911 rfl ?_
  refine z_arg C hW 1 dL_law_912 dL_law_913 dL_law_914 dL_law_915 dL_law_916 (by omega) ?_
  refine z_arg C hW 2 dL_law_917 dL_law_918 dL_law_919 dL_law_920 dL_law_921 (by omega) ?_
  show zZ g X _ _ _ 922 (lwL i) (([.int (iI (ar sc (i + 1))), .int (iI (ar sc (i + 2)))] : List Value).reverse ++ .ref 58 :: [.int x])
  refine zZ_callV C oX6_most iX6_most eX6_most lkL_106 (ci := 6) (k := 30) (by rw [hLay]; rfl) (by decide) rfl rfl h6 rfl (by decide) hnc hns (Nat.le_of_ble_eq_true rfl) dL_law_922 (fun r2 σ2 hr2 => ?_)
  obtain ⟨hr2, I2, J2, q2, R2, hσ⟩ := k6 r2 σ2 hr2
  subst hr2
  subst hσ
  show zZ g X nc ns (zst I2 J2 q2) 925 (lwL i) [.int x, .int x]
  exact z_same C 1571 dL_law_925 (by decide) (kk I2 J2 q2 R2)
theorem lw_21 {g : zG} {X : zX} {mn : String} {nc ns N : Nat} {sc : Nat → Int32} {I : Nat → Nat → Int} {J : Nat → Nat → Int64} {q : Nat × Nat} {i : Nat} (C : zC g X (mL mn) 20 100 3000) (hnc : nc + 0 ≤ 100) (hns : ns + 0 ≤ 3000) (hW : LW g X N sc) (hi : i + 6 ≤ N) (R : Rel I J q) (K : CAN I J) (kk : ∀ I2 J2 q2, Rel I2 J2 q2 → zZ g X nc ns (zst I2 J2 q2) 1571 (lwL i) []) : zZ g X nc ns (zst I J q) 930 (lwL i) [] := by
  obtain ⟨a, p5, hv, h5, k5⟩ := pr_stand (g := g) R K 
  obtain ⟨x, hx⟩ := hv
  subst hx
  refine z_aload_n C 2 rfl dL_law_930 rfl ?_
  show zZ g X _ _ _ 931 (lwL i) (([] : List Value).reverse ++ .ref 0 :: [])
  refine zZ_callV C oX5_stand iX5_stand eX5_stand lkL_107 (ci := 5) (k := 8) rfl (by decide) rfl rfl h5 rfl (by decide) hnc hns (Nat.le_of_ble_eq_true rfl) dL_law_931 (fun r σ' hr => ?_)
  obtain ⟨hr, hLay, p6, h6, k6⟩ := k5 r σ' hr
  subst hr
  show zZ g X nc ns σ' 934 (lwL i) [.int x]
  refine z_aload_n C 1 rfl dL_law_934 rfl ?_
  show zZ g X _ _ _ 935 (lwL i) (([] : List Value).reverse ++ .ref 58 :: [.int x])
  refine zZ_callV C oX6_stand iX6_stand eX6_stand lkL_110 (ci := 6) (k := 30) (by rw [hLay]; rfl) (by decide) rfl rfl h6 rfl (by decide) hnc hns (Nat.le_of_ble_eq_true rfl) dL_law_935 (fun r2 σ2 hr2 => ?_)
  obtain ⟨hr2, I2, J2, q2, R2, hσ⟩ := k6 r2 σ2 hr2
  subst hr2
  subst hσ
  show zZ g X nc ns (zst I2 J2 q2) 938 (lwL i) [.int x, .int x]
  exact z_same C 1571 dL_law_938 (by decide) (kk I2 J2 q2 R2)
theorem lw_22 {g : zG} {X : zX} {mn : String} {nc ns N : Nat} {sc : Nat → Int32} {I : Nat → Nat → Int} {J : Nat → Nat → Int64} {q : Nat × Nat} {i : Nat} (C : zC g X (mL mn) 20 100 3000) (hnc : nc + 0 ≤ 100) (hns : ns + 0 ≤ 3000) (hW : LW g X N sc) (hi : i + 6 ≤ N) (R : Rel I J q) (K : CAN I J) (kk : ∀ I2 J2 q2, Rel I2 J2 q2 → zZ g X nc ns (zst I2 J2 q2) 1571 (lwL i) []) : zZ g X nc ns (zst I J q) 943 (lwL i) [] := by
  obtain ⟨a, p5, hv, h5, k5⟩ := pr_shy (g := g) R K (ar_r sc (i + 1))
  obtain ⟨x, hx⟩ := hv
  subst hx
  refine z_aload_n C 2 rfl dL_law_943 rfl ?_
  refine z_arg C hW 1 dL_law_944 dL_law_945 dL_law_946 dL_law_947 dL_law_948 (by omega) ?_
  show zZ g X _ _ _ 949 (lwL i) (([.int (iI (ar sc (i + 1)))] : List Value).reverse ++ .ref 0 :: [])
  refine zZ_callV C oX5_shy iX5_shy eX5_shy lkL_111 (ci := 5) (k := 8) rfl (by decide) rfl rfl h5 rfl (by decide) hnc hns (Nat.le_of_ble_eq_true rfl) dL_law_949 (fun r σ' hr => ?_)
  obtain ⟨hr, hLay, p6, h6, k6⟩ := k5 r σ' hr
  subst hr
  show zZ g X nc ns σ' 952 (lwL i) [.int x]
  refine z_aload_n C 1 rfl dL_law_952 rfl ?_
  refine z_arg C hW 1 dL_law_953 dL_law_954 dL_law_955 dL_law_956 dL_law_957 (by omega) ?_
  show zZ g X _ _ _ 958 (lwL i) (([.int (iI (ar sc (i + 1)))] : List Value).reverse ++ .ref 58 :: [.int x])
  refine zZ_callV C oX6_shy iX6_shy eX6_shy lkL_114 (ci := 6) (k := 30) (by rw [hLay]; rfl) (by decide) rfl rfl h6 rfl (by decide) hnc hns (Nat.le_of_ble_eq_true rfl) dL_law_958 (fun r2 σ2 hr2 => ?_)
  obtain ⟨hr2, I2, J2, q2, R2, hσ⟩ := k6 r2 σ2 hr2
  subst hr2
  subst hσ
  show zZ g X nc ns (zst I2 J2 q2) 961 (lwL i) [.int x, .int x]
  exact z_same C 1571 dL_law_961 (by decide) (kk I2 J2 q2 R2)
theorem lw_23 {g : zG} {X : zX} {mn : String} {nc ns N : Nat} {sc : Nat → Int32} {I : Nat → Nat → Int} {J : Nat → Nat → Int64} {q : Nat × Nat} {i : Nat} (C : zC g X (mL mn) 20 100 3000) (hnc : nc + 0 ≤ 100) (hns : ns + 0 ≤ 3000) (hW : LW g X N sc) (hi : i + 6 ≤ N) (R : Rel I J q) (K : CAN I J) (kk : ∀ I2 J2 q2, Rel I2 J2 q2 → zZ g X nc ns (zst I2 J2 q2) 1571 (lwL i) []) : zZ g X nc ns (zst I J q) 966 (lwL i) [] := by
  obtain ⟨a, p5, hv, h5, k5⟩ := pr_late (g := g) R K (ar_r sc (i + 1)) (ar_r sc (i + 2)) (ar_r sc (i + 3))
  obtain ⟨x, hx⟩ := hv
  subst hx
  refine z_aload_n C 2 rfl dL_law_966 rfl ?_
  refine z_arg C hW 1 dL_law_967 dL_law_968 dL_law_969 dL_law_970 dL_law_971 (by omega) ?_
  refine z_arg C hW 2 dL_law_972 dL_law_973 dL_law_974 dL_law_975 dL_law_976 (by omega) ?_
  refine z_arg C hW 3 dL_law_977 dL_law_978 dL_law_979 dL_law_980 dL_law_981 (by omega) ?_
  show zZ g X _ _ _ 982 (lwL i) (([.int (iI (ar sc (i + 1))), .int (iI (ar sc (i + 2))), .int (iI (ar sc (i + 3)))] : List Value).reverse ++ .ref 0 :: [])
  refine zZ_callV C oX5_late iX5_late eX5_late lkL_115 (ci := 5) (k := 8) rfl (by decide) rfl rfl h5 rfl (by decide) hnc hns (Nat.le_of_ble_eq_true rfl) dL_law_982 (fun r σ' hr => ?_)
  obtain ⟨hr, hLay, p6, h6, k6⟩ := k5 r σ' hr
  subst hr
  show zZ g X nc ns σ' 985 (lwL i) [.int x]
  refine z_aload_n C 1 rfl dL_law_985 rfl ?_
  refine z_arg C hW 1 dL_law_986 dL_law_987 dL_law_988 dL_law_989 dL_law_990 (by omega) ?_
  refine z_arg C hW 2 dL_law_991 dL_law_992 dL_law_993 dL_law_994 dL_law_995 (by omega) ?_
  refine z_arg C hW 3 dL_law_996 dL_law_997 dL_law_998 dL_law_999 dL_law_1000 (by omega) ?_
  show zZ g X _ _ _ 1001 (lwL i) (([.int (iI (ar sc (i + 1))), .int (iI (ar sc (i + 2))), .int (iI (ar sc (i + 3)))] : List Value).reverse ++ .ref 58 :: [.int x])
  refine zZ_callV C oX6_late iX6_late eX6_late lkL_118 (ci := 6) (k := 30) (by rw [hLay]; rfl) (by decide) rfl rfl h6 rfl (by decide) hnc hns (Nat.le_of_ble_eq_true rfl) dL_law_1001 (fun r2 σ2 hr2 => ?_)
  obtain ⟨hr2, I2, J2, q2, R2, hσ⟩ := k6 r2 σ2 hr2
  subst hr2
  subst hσ
  show zZ g X nc ns (zst I2 J2 q2) 1004 (lwL i) [.int x, .int x]
  exact z_same C 1571 dL_law_1004 (by decide) (kk I2 J2 q2 R2)
theorem lw_24 {g : zG} {X : zX} {mn : String} {nc ns N : Nat} {sc : Nat → Int32} {I : Nat → Nat → Int} {J : Nat → Nat → Int64} {q : Nat × Nat} {i : Nat} (C : zC g X (mL mn) 20 100 3000) (hnc : nc + 0 ≤ 100) (hns : ns + 0 ≤ 3000) (hW : LW g X N sc) (hi : i + 6 ≤ N) (R : Rel I J q) (K : CAN I J) (kk : ∀ I2 J2 q2, Rel I2 J2 q2 → zZ g X nc ns (zst I2 J2 q2) 1571 (lwL i) []) : zZ g X nc ns (zst I J q) 1009 (lwL i) [] := by
  obtain ⟨a, p5, hv, h5, k5⟩ := pr_bare (g := g) R K 
  obtain ⟨x, hx⟩ := hv
  subst hx
  refine z_aload_n C 2 rfl dL_law_1009 rfl ?_
  show zZ g X _ _ _ 1010 (lwL i) (([] : List Value).reverse ++ .ref 0 :: [])
  refine zZ_callV C oX5_bare iX5_bare eX5_bare lkL_119 (ci := 5) (k := 8) rfl (by decide) rfl rfl h5 rfl (by decide) hnc hns (Nat.le_of_ble_eq_true rfl) dL_law_1010 (fun r σ' hr => ?_)
  obtain ⟨hr, hLay, p6, h6, k6⟩ := k5 r σ' hr
  subst hr
  show zZ g X nc ns σ' 1013 (lwL i) [.int x]
  refine z_aload_n C 1 rfl dL_law_1013 rfl ?_
  show zZ g X _ _ _ 1014 (lwL i) (([] : List Value).reverse ++ .ref 58 :: [.int x])
  refine zZ_callV C oX6_bare iX6_bare eX6_bare lkL_122 (ci := 6) (k := 30) (by rw [hLay]; rfl) (by decide) rfl rfl h6 rfl (by decide) hnc hns (Nat.le_of_ble_eq_true rfl) dL_law_1014 (fun r2 σ2 hr2 => ?_)
  obtain ⟨hr2, I2, J2, q2, R2, hσ⟩ := k6 r2 σ2 hr2
  subst hr2
  subst hσ
  show zZ g X nc ns (zst I2 J2 q2) 1017 (lwL i) [.int x, .int x]
  exact z_same C 1571 dL_law_1017 (by decide) (kk I2 J2 q2 R2)
theorem lw_25 {g : zG} {X : zX} {mn : String} {nc ns N : Nat} {sc : Nat → Int32} {I : Nat → Nat → Int} {J : Nat → Nat → Int64} {q : Nat × Nat} {i : Nat} (C : zC g X (mL mn) 20 100 3000) (hnc : nc + 0 ≤ 100) (hns : ns + 0 ≤ 3000) (hW : LW g X N sc) (hi : i + 6 ≤ N) (R : Rel I J q) (K : CAN I J) (kk : ∀ I2 J2 q2, Rel I2 J2 q2 → zZ g X nc ns (zst I2 J2 q2) 1571 (lwL i) []) : zZ g X nc ns (zst I J q) 1022 (lwL i) [] := by
  obtain ⟨a, p5, hv, h5, k5⟩ := pr_odds (g := g) R K (ar_r sc (i + 1)) (ar_r sc (i + 2))
  obtain ⟨x, hx⟩ := hv
  subst hx
  refine z_aload_n C 2 rfl dL_law_1022 rfl ?_
  refine z_arg C hW 1 dL_law_1023 dL_law_1024 dL_law_1025 dL_law_1026 dL_law_1027 (by omega) ?_
  refine z_arg C hW 2 dL_law_1028 dL_law_1029 dL_law_1030 dL_law_1031 dL_law_1032 (by omega) ?_
  show zZ g X _ _ _ 1033 (lwL i) (([.int (iI (ar sc (i + 1))), .int (iI (ar sc (i + 2)))] : List Value).reverse ++ .ref 0 :: [])
  refine zZ_callV C oX5_odds iX5_odds eX5_odds lkL_123 (ci := 5) (k := 8) rfl (by decide) rfl rfl h5 rfl (by decide) hnc hns (Nat.le_of_ble_eq_true rfl) dL_law_1033 (fun r σ' hr => ?_)
  obtain ⟨hr, hLay, p6, h6, k6⟩ := k5 r σ' hr
  subst hr
  show zZ g X nc ns σ' 1036 (lwL i) [.int x]
  refine z_aload_n C 1 rfl dL_law_1036 rfl ?_
  refine z_arg C hW 1 dL_law_1037 dL_law_1038 dL_law_1039 dL_law_1040 dL_law_1041 (by omega) ?_
  refine z_arg C hW 2 dL_law_1042 dL_law_1043 dL_law_1044 dL_law_1045 dL_law_1046 (by omega) ?_
  show zZ g X _ _ _ 1047 (lwL i) (([.int (iI (ar sc (i + 1))), .int (iI (ar sc (i + 2)))] : List Value).reverse ++ .ref 58 :: [.int x])
  refine zZ_callV C oX6_odds iX6_odds eX6_odds lkL_126 (ci := 6) (k := 30) (by rw [hLay]; rfl) (by decide) rfl rfl h6 rfl (by decide) hnc hns (Nat.le_of_ble_eq_true rfl) dL_law_1047 (fun r2 σ2 hr2 => ?_)
  obtain ⟨hr2, I2, J2, q2, R2, hσ⟩ := k6 r2 σ2 hr2
  subst hr2
  subst hσ
  show zZ g X nc ns (zst I2 J2 q2) 1050 (lwL i) [.int x, .int x]
  exact z_same C 1571 dL_law_1050 (by decide) (kk I2 J2 q2 R2)
theorem lw_26 {g : zG} {X : zX} {mn : String} {nc ns N : Nat} {sc : Nat → Int32} {I : Nat → Nat → Int} {J : Nat → Nat → Int64} {q : Nat × Nat} {i : Nat} (C : zC g X (mL mn) 20 100 3000) (hnc : nc + 0 ≤ 100) (hns : ns + 0 ≤ 3000) (hW : LW g X N sc) (hi : i + 6 ≤ N) (R : Rel I J q) (K : CAN I J) (kk : ∀ I2 J2 q2, Rel I2 J2 q2 → zZ g X nc ns (zst I2 J2 q2) 1571 (lwL i) []) : zZ g X nc ns (zst I J q) 1055 (lwL i) [] := by
  obtain ⟨a, p5, hv, h5, k5⟩ := pr_ewes (g := g) R K (ar_r sc (i + 1))
  obtain ⟨x, hx⟩ := hv
  subst hx
  refine z_aload_n C 2 rfl dL_law_1055 rfl ?_
  refine z_arg C hW 1 dL_law_1056 dL_law_1057 dL_law_1058 dL_law_1059 dL_law_1060 (by omega) ?_
  show zZ g X _ _ _ 1061 (lwL i) (([.int (iI (ar sc (i + 1)))] : List Value).reverse ++ .ref 0 :: [])
  refine zZ_callV C oX5_ewes iX5_ewes eX5_ewes lkL_127 (ci := 5) (k := 8) rfl (by decide) rfl rfl h5 rfl (by decide) hnc hns (Nat.le_of_ble_eq_true rfl) dL_law_1061 (fun r σ' hr => ?_)
  obtain ⟨hr, hLay, p6, h6, k6⟩ := k5 r σ' hr
  subst hr
  show zZ g X nc ns σ' 1064 (lwL i) [.int x]
  refine z_aload_n C 1 rfl dL_law_1064 rfl ?_
  refine z_arg C hW 1 dL_law_1065 dL_law_1066 dL_law_1067 dL_law_1068 dL_law_1069 (by omega) ?_
  show zZ g X _ _ _ 1070 (lwL i) (([.int (iI (ar sc (i + 1)))] : List Value).reverse ++ .ref 58 :: [.int x])
  refine zZ_callV C oX6_ewes iX6_ewes eX6_ewes lkL_130 (ci := 6) (k := 30) (by rw [hLay]; rfl) (by decide) rfl rfl h6 rfl (by decide) hnc hns (Nat.le_of_ble_eq_true rfl) dL_law_1070 (fun r2 σ2 hr2 => ?_)
  obtain ⟨hr2, I2, J2, q2, R2, hσ⟩ := k6 r2 σ2 hr2
  subst hr2
  subst hσ
  show zZ g X nc ns (zst I2 J2 q2) 1073 (lwL i) [.int x, .int x]
  exact z_same C 1571 dL_law_1073 (by decide) (kk I2 J2 q2 R2)
theorem lw_27 {g : zG} {X : zX} {mn : String} {nc ns N : Nat} {sc : Nat → Int32} {I : Nat → Nat → Int} {J : Nat → Nat → Int64} {q : Nat × Nat} {i : Nat} (C : zC g X (mL mn) 20 100 3000) (hnc : nc + 0 ≤ 100) (hns : ns + 0 ≤ 3000) (hW : LW g X N sc) (hi : i + 6 ≤ N) (R : Rel I J q) (K : CAN I J) (kk : ∀ I2 J2 q2, Rel I2 J2 q2 → zZ g X nc ns (zst I2 J2 q2) 1571 (lwL i) []) : zZ g X nc ns (zst I J q) 1078 (lwL i) [] := by
  obtain ⟨a, p5, hv, h5, k5⟩ := pr_path (g := g) R K (ar_r sc (i + 1))
  obtain ⟨x, hx⟩ := hv
  subst hx
  refine z_aload_n C 2 rfl dL_law_1078 rfl ?_
  refine z_arg C hW 1 dL_law_1079 dL_law_1080 dL_law_1081 dL_law_1082 dL_law_1083 (by omega) ?_
  show zZ g X _ _ _ 1084 (lwL i) (([.int (iI (ar sc (i + 1)))] : List Value).reverse ++ .ref 0 :: [])
  refine zZ_callV C oX5_path iX5_path eX5_path lkL_131 (ci := 5) (k := 8) rfl (by decide) rfl rfl h5 rfl (by decide) hnc hns (Nat.le_of_ble_eq_true rfl) dL_law_1084 (fun r σ' hr => ?_)
  obtain ⟨hr, hLay, p6, h6, k6⟩ := k5 r σ' hr
  subst hr
  show zZ g X nc ns σ' 1087 (lwL i) [.int x]
  refine z_aload_n C 1 rfl dL_law_1087 rfl ?_
  refine z_arg C hW 1 dL_law_1088 dL_law_1089 dL_law_1090 dL_law_1091 dL_law_1092 (by omega) ?_
  show zZ g X _ _ _ 1093 (lwL i) (([.int (iI (ar sc (i + 1)))] : List Value).reverse ++ .ref 58 :: [.int x])
  refine zZ_callV C oX6_path iX6_path eX6_path lkL_134 (ci := 6) (k := 30) (by rw [hLay]; rfl) (by decide) rfl rfl h6 rfl (by decide) hnc hns (Nat.le_of_ble_eq_true rfl) dL_law_1093 (fun r2 σ2 hr2 => ?_)
  obtain ⟨hr2, I2, J2, q2, R2, hσ⟩ := k6 r2 σ2 hr2
  subst hr2
  subst hσ
  show zZ g X nc ns (zst I2 J2 q2) 1096 (lwL i) [.int x, .int x]
  exact z_same C 1571 dL_law_1096 (by decide) (kk I2 J2 q2 R2)
theorem lw_28 {g : zG} {X : zX} {mn : String} {nc ns N : Nat} {sc : Nat → Int32} {I : Nat → Nat → Int} {J : Nat → Nat → Int64} {q : Nat × Nat} {i : Nat} (C : zC g X (mL mn) 20 100 3000) (hnc : nc + 0 ≤ 100) (hns : ns + 0 ≤ 3000) (hW : LW g X N sc) (hi : i + 6 ≤ N) (R : Rel I J q) (K : CAN I J) (kk : ∀ I2 J2 q2, Rel I2 J2 q2 → zZ g X nc ns (zst I2 J2 q2) 1571 (lwL i) []) : zZ g X nc ns (zst I J q) 1101 (lwL i) [] := by
  obtain ⟨a, p5, hv, h5, k5⟩ := pr_reach (g := g) R K (ar_r sc (i + 1))
  obtain ⟨x, hx⟩ := hv
  subst hx
  refine z_aload_n C 2 rfl dL_law_1101 rfl ?_
  refine z_arg C hW 1 dL_law_1102 dL_law_1103 dL_law_1104 dL_law_1105 dL_law_1106 (by omega) ?_
  show zZ g X _ _ _ 1107 (lwL i) (([.int (iI (ar sc (i + 1)))] : List Value).reverse ++ .ref 0 :: [])
  refine zZ_callV C oX5_reach iX5_reach eX5_reach lkL_135 (ci := 5) (k := 8) rfl (by decide) rfl rfl h5 rfl (by decide) hnc hns (Nat.le_of_ble_eq_true rfl) dL_law_1107 (fun r σ' hr => ?_)
  obtain ⟨hr, hLay, p6, h6, k6⟩ := k5 r σ' hr
  subst hr
  show zZ g X nc ns σ' 1110 (lwL i) [.int x]
  refine z_aload_n C 1 rfl dL_law_1110 rfl ?_
  refine z_arg C hW 1 dL_law_1111 dL_law_1112 dL_law_1113 dL_law_1114 dL_law_1115 (by omega) ?_
  show zZ g X _ _ _ 1116 (lwL i) (([.int (iI (ar sc (i + 1)))] : List Value).reverse ++ .ref 58 :: [.int x])
  refine zZ_callV C oX6_reach iX6_reach eX6_reach lkL_138 (ci := 6) (k := 30) (by rw [hLay]; rfl) (by decide) rfl rfl h6 rfl (by decide) hnc hns (Nat.le_of_ble_eq_true rfl) dL_law_1116 (fun r2 σ2 hr2 => ?_)
  obtain ⟨hr2, I2, J2, q2, R2, hσ⟩ := k6 r2 σ2 hr2
  subst hr2
  subst hσ
  show zZ g X nc ns (zst I2 J2 q2) 1119 (lwL i) [.int x, .int x]
  exact z_same C 1571 dL_law_1119 (by decide) (kk I2 J2 q2 R2)
theorem lw_29 {g : zG} {X : zX} {mn : String} {nc ns N : Nat} {sc : Nat → Int32} {I : Nat → Nat → Int} {J : Nat → Nat → Int64} {q : Nat × Nat} {i : Nat} (C : zC g X (mL mn) 20 100 3000) (hnc : nc + 0 ≤ 100) (hns : ns + 0 ≤ 3000) (hW : LW g X N sc) (hi : i + 6 ≤ N) (R : Rel I J q) (K : CAN I J) (kk : ∀ I2 J2 q2, Rel I2 J2 q2 → zZ g X nc ns (zst I2 J2 q2) 1571 (lwL i) []) : zZ g X nc ns (zst I J q) 1124 (lwL i) [] := by
  obtain ⟨a, p5, hv, h5, k5⟩ := pr_ways (g := g) R K (ar_r sc (i + 1))
  obtain ⟨x, hx⟩ := hv
  subst hx
  refine z_aload_n C 2 rfl dL_law_1124 rfl ?_
  refine z_arg C hW 1 dL_law_1125 dL_law_1126 dL_law_1127 dL_law_1128 dL_law_1129 (by omega) ?_
  show zZ g X _ _ _ 1130 (lwL i) (([.int (iI (ar sc (i + 1)))] : List Value).reverse ++ .ref 0 :: [])
  refine zZ_callV C oX5_ways iX5_ways eX5_ways lkL_139 (ci := 5) (k := 8) rfl (by decide) rfl rfl h5 rfl (by decide) hnc hns (Nat.le_of_ble_eq_true rfl) dL_law_1130 (fun r σ' hr => ?_)
  obtain ⟨hr, hLay, p6, h6, k6⟩ := k5 r σ' hr
  subst hr
  show zZ g X nc ns σ' 1133 (lwL i) [.int x]
  refine z_aload_n C 1 rfl dL_law_1133 rfl ?_
  refine z_arg C hW 1 dL_law_1134 dL_law_1135 dL_law_1136 dL_law_1137 dL_law_1138 (by omega) ?_
  show zZ g X _ _ _ 1139 (lwL i) (([.int (iI (ar sc (i + 1)))] : List Value).reverse ++ .ref 58 :: [.int x])
  refine zZ_callV C oX6_ways iX6_ways eX6_ways lkL_142 (ci := 6) (k := 30) (by rw [hLay]; rfl) (by decide) rfl rfl h6 rfl (by decide) hnc hns (Nat.le_of_ble_eq_true rfl) dL_law_1139 (fun r2 σ2 hr2 => ?_)
  obtain ⟨hr2, I2, J2, q2, R2, hσ⟩ := k6 r2 σ2 hr2
  subst hr2
  subst hσ
  show zZ g X nc ns (zst I2 J2 q2) 1142 (lwL i) [.int x, .int x]
  exact z_same C 1571 dL_law_1142 (by decide) (kk I2 J2 q2 R2)
theorem lw_30 {g : zG} {X : zX} {mn : String} {nc ns N : Nat} {sc : Nat → Int32} {I : Nat → Nat → Int} {J : Nat → Nat → Int64} {q : Nat × Nat} {i : Nat} (C : zC g X (mL mn) 20 100 3000) (hnc : nc + 0 ≤ 100) (hns : ns + 0 ≤ 3000) (hW : LW g X N sc) (hi : i + 6 ≤ N) (R : Rel I J q) (K : CAN I J) (kk : ∀ I2 J2 q2, Rel I2 J2 q2 → zZ g X nc ns (zst I2 J2 q2) 1571 (lwL i) []) : zZ g X nc ns (zst I J q) 1147 (lwL i) [] := by
  obtain ⟨a, p5, hv, h5, k5⟩ := pr_open (g := g) R K (ar_r sc (i + 1))
  obtain ⟨x, hx⟩ := hv
  subst hx
  refine z_aload_n C 2 rfl dL_law_1147 rfl ?_
  refine z_arg C hW 1 dL_law_1148 dL_law_1149 dL_law_1150 dL_law_1151 dL_law_1152 (by omega) ?_
  show zZ g X _ _ _ 1153 (lwL i) (([.int (iI (ar sc (i + 1)))] : List Value).reverse ++ .ref 0 :: [])
  refine zZ_callV C oX5_open iX5_open eX5_open lkL_143 (ci := 5) (k := 8) rfl (by decide) rfl rfl h5 rfl (by decide) hnc hns (Nat.le_of_ble_eq_true rfl) dL_law_1153 (fun r σ' hr => ?_)
  obtain ⟨hr, hLay, p6, h6, k6⟩ := k5 r σ' hr
  subst hr
  show zZ g X nc ns σ' 1156 (lwL i) [.int x]
  refine z_aload_n C 1 rfl dL_law_1156 rfl ?_
  refine z_arg C hW 1 dL_law_1157 dL_law_1158 dL_law_1159 dL_law_1160 dL_law_1161 (by omega) ?_
  show zZ g X _ _ _ 1162 (lwL i) (([.int (iI (ar sc (i + 1)))] : List Value).reverse ++ .ref 58 :: [.int x])
  refine zZ_callV C oX6_open iX6_open eX6_open lkL_146 (ci := 6) (k := 30) (by rw [hLay]; rfl) (by decide) rfl rfl h6 rfl (by decide) hnc hns (Nat.le_of_ble_eq_true rfl) dL_law_1162 (fun r2 σ2 hr2 => ?_)
  obtain ⟨hr2, I2, J2, q2, R2, hσ⟩ := k6 r2 σ2 hr2
  subst hr2
  subst hσ
  show zZ g X nc ns (zst I2 J2 q2) 1165 (lwL i) [.int x, .int x]
  exact z_same C 1571 dL_law_1165 (by decide) (kk I2 J2 q2 R2)
theorem lw_31 {g : zG} {X : zX} {mn : String} {nc ns N : Nat} {sc : Nat → Int32} {I : Nat → Nat → Int} {J : Nat → Nat → Int64} {q : Nat × Nat} {i : Nat} (C : zC g X (mL mn) 20 100 3000) (hnc : nc + 0 ≤ 100) (hns : ns + 0 ≤ 3000) (hW : LW g X N sc) (hi : i + 6 ≤ N) (R : Rel I J q) (K : CAN I J) (kk : ∀ I2 J2 q2, Rel I2 J2 q2 → zZ g X nc ns (zst I2 J2 q2) 1571 (lwL i) []) : zZ g X nc ns (zst I J q) 1170 (lwL i) [] := by
  obtain ⟨a, p5, hv, h5, k5⟩ := pr_still (g := g) R K (ar_r sc (i + 1))
  obtain ⟨x, hx⟩ := hv
  subst hx
  refine z_aload_n C 2 rfl dL_law_1170 rfl ?_
  refine z_arg C hW 1 dL_law_1171 dL_law_1172 dL_law_1173 dL_law_1174 dL_law_1175 (by omega) ?_
  show zZ g X _ _ _ 1176 (lwL i) (([.int (iI (ar sc (i + 1)))] : List Value).reverse ++ .ref 0 :: [])
  refine zZ_callV C oX5_still iX5_still eX5_still lkL_147 (ci := 5) (k := 8) rfl (by decide) rfl rfl h5 rfl (by decide) hnc hns (Nat.le_of_ble_eq_true rfl) dL_law_1176 (fun r σ' hr => ?_)
  obtain ⟨hr, hLay, p6, h6, k6⟩ := k5 r σ' hr
  subst hr
  show zZ g X nc ns σ' 1179 (lwL i) [.int x]
  refine z_aload_n C 1 rfl dL_law_1179 rfl ?_
  refine z_arg C hW 1 dL_law_1180 dL_law_1181 dL_law_1182 dL_law_1183 dL_law_1184 (by omega) ?_
  show zZ g X _ _ _ 1185 (lwL i) (([.int (iI (ar sc (i + 1)))] : List Value).reverse ++ .ref 58 :: [.int x])
  refine zZ_callV C oX6_still iX6_still eX6_still lkL_150 (ci := 6) (k := 30) (by rw [hLay]; rfl) (by decide) rfl rfl h6 rfl (by decide) hnc hns (Nat.le_of_ble_eq_true rfl) dL_law_1185 (fun r2 σ2 hr2 => ?_)
  obtain ⟨hr2, I2, J2, q2, R2, hσ⟩ := k6 r2 σ2 hr2
  subst hr2
  subst hσ
  show zZ g X nc ns (zst I2 J2 q2) 1188 (lwL i) [.int x, .int x]
  exact z_same C 1571 dL_law_1188 (by decide) (kk I2 J2 q2 R2)
theorem lw_32 {g : zG} {X : zX} {mn : String} {nc ns N : Nat} {sc : Nat → Int32} {I : Nat → Nat → Int} {J : Nat → Nat → Int64} {q : Nat × Nat} {i : Nat} (C : zC g X (mL mn) 20 100 3000) (hnc : nc + 0 ≤ 100) (hns : ns + 0 ≤ 3000) (hW : LW g X N sc) (hi : i + 6 ≤ N) (R : Rel I J q) (K : CAN I J) (kk : ∀ I2 J2 q2, Rel I2 J2 q2 → zZ g X nc ns (zst I2 J2 q2) 1571 (lwL i) []) : zZ g X nc ns (zst I J q) 1193 (lwL i) [] := by
  obtain ⟨a, p5, hv, h5, k5⟩ := pr_held (g := g) R K 
  obtain ⟨x, hx⟩ := hv
  subst hx
  refine z_aload_n C 2 rfl dL_law_1193 rfl ?_
  show zZ g X _ _ _ 1194 (lwL i) (([] : List Value).reverse ++ .ref 0 :: [])
  refine zZ_callV C oX5_held iX5_held eX5_held lkL_151 (ci := 5) (k := 8) rfl (by decide) rfl rfl h5 rfl (by decide) hnc hns (Nat.le_of_ble_eq_true rfl) dL_law_1194 (fun r σ' hr => ?_)
  obtain ⟨hr, hLay, p6, h6, k6⟩ := k5 r σ' hr
  subst hr
  show zZ g X nc ns σ' 1197 (lwL i) [.int x]
  refine z_aload_n C 1 rfl dL_law_1197 rfl ?_
  show zZ g X _ _ _ 1198 (lwL i) (([] : List Value).reverse ++ .ref 58 :: [.int x])
  refine zZ_callV C oX6_held iX6_held eX6_held lkL_154 (ci := 6) (k := 30) (by rw [hLay]; rfl) (by decide) rfl rfl h6 rfl (by decide) hnc hns (Nat.le_of_ble_eq_true rfl) dL_law_1198 (fun r2 σ2 hr2 => ?_)
  obtain ⟨hr2, I2, J2, q2, R2, hσ⟩ := k6 r2 σ2 hr2
  subst hr2
  subst hσ
  show zZ g X nc ns (zst I2 J2 q2) 1201 (lwL i) [.int x, .int x]
  exact z_same C 1571 dL_law_1201 (by decide) (kk I2 J2 q2 R2)
theorem lw_33 {g : zG} {X : zX} {mn : String} {nc ns N : Nat} {sc : Nat → Int32} {I : Nat → Nat → Int} {J : Nat → Nat → Int64} {q : Nat × Nat} {i : Nat} (C : zC g X (mL mn) 20 100 3000) (hnc : nc + 0 ≤ 100) (hns : ns + 0 ≤ 3000) (hW : LW g X N sc) (hi : i + 6 ≤ N) (R : Rel I J q) (K : CAN I J) (kk : ∀ I2 J2 q2, Rel I2 J2 q2 → zZ g X nc ns (zst I2 J2 q2) 1571 (lwL i) []) : zZ g X nc ns (zst I J q) 1206 (lwL i) [] := by
  obtain ⟨a, p5, hv, h5, k5⟩ := pr_grazing (g := g) R K 
  obtain ⟨x, hx⟩ := hv
  subst hx
  refine z_aload_n C 2 rfl dL_law_1206 rfl ?_
  show zZ g X _ _ _ 1207 (lwL i) (([] : List Value).reverse ++ .ref 0 :: [])
  refine zZ_callV C oX5_grazing iX5_grazing eX5_grazing lkL_155 (ci := 5) (k := 8) rfl (by decide) rfl rfl h5 rfl (by decide) hnc hns (Nat.le_of_ble_eq_true rfl) dL_law_1207 (fun r σ' hr => ?_)
  obtain ⟨hr, hLay, p6, h6, k6⟩ := k5 r σ' hr
  subst hr
  show zZ g X nc ns σ' 1210 (lwL i) [.int x]
  refine z_aload_n C 1 rfl dL_law_1210 rfl ?_
  show zZ g X _ _ _ 1211 (lwL i) (([] : List Value).reverse ++ .ref 58 :: [.int x])
  refine zZ_callV C oX6_grazing iX6_grazing eX6_grazing lkL_158 (ci := 6) (k := 30) (by rw [hLay]; rfl) (by decide) rfl rfl h6 rfl (by decide) hnc hns (Nat.le_of_ble_eq_true rfl) dL_law_1211 (fun r2 σ2 hr2 => ?_)
  obtain ⟨hr2, I2, J2, q2, R2, hσ⟩ := k6 r2 σ2 hr2
  subst hr2
  subst hσ
  show zZ g X nc ns (zst I2 J2 q2) 1214 (lwL i) [.int x, .int x]
  exact z_same C 1571 dL_law_1214 (by decide) (kk I2 J2 q2 R2)
theorem lw_34 {g : zG} {X : zX} {mn : String} {nc ns N : Nat} {sc : Nat → Int32} {I : Nat → Nat → Int} {J : Nat → Nat → Int64} {q : Nat × Nat} {i : Nat} (C : zC g X (mL mn) 20 100 3000) (hnc : nc + 0 ≤ 100) (hns : ns + 0 ≤ 3000) (hW : LW g X N sc) (hi : i + 6 ≤ N) (R : Rel I J q) (K : CAN I J) (kk : ∀ I2 J2 q2, Rel I2 J2 q2 → zZ g X nc ns (zst I2 J2 q2) 1571 (lwL i) []) : zZ g X nc ns (zst I J q) 1219 (lwL i) [] := by
  obtain ⟨a, p5, hv, h5, k5⟩ := pr_last (g := g) R K 
  obtain ⟨x, hx⟩ := hv
  subst hx
  refine z_aload_n C 2 rfl dL_law_1219 rfl ?_
  show zZ g X _ _ _ 1220 (lwL i) (([] : List Value).reverse ++ .ref 0 :: [])
  refine zZ_callV C oX5_last iX5_last eX5_last lkL_159 (ci := 5) (k := 8) rfl (by decide) rfl rfl h5 rfl (by decide) hnc hns (Nat.le_of_ble_eq_true rfl) dL_law_1220 (fun r σ' hr => ?_)
  obtain ⟨hr, hLay, p6, h6, k6⟩ := k5 r σ' hr
  subst hr
  show zZ g X nc ns σ' 1223 (lwL i) [.int x]
  refine z_aload_n C 1 rfl dL_law_1223 rfl ?_
  show zZ g X _ _ _ 1224 (lwL i) (([] : List Value).reverse ++ .ref 58 :: [.int x])
  refine zZ_callV C oX6_last iX6_last eX6_last lkL_162 (ci := 6) (k := 30) (by rw [hLay]; rfl) (by decide) rfl rfl h6 rfl (by decide) hnc hns (Nat.le_of_ble_eq_true rfl) dL_law_1224 (fun r2 σ2 hr2 => ?_)
  obtain ⟨hr2, I2, J2, q2, R2, hσ⟩ := k6 r2 σ2 hr2
  subst hr2
  subst hσ
  show zZ g X nc ns (zst I2 J2 q2) 1227 (lwL i) [.int x, .int x]
  exact z_same C 1571 dL_law_1227 (by decide) (kk I2 J2 q2 R2)
theorem lw_35 {g : zG} {X : zX} {mn : String} {nc ns N : Nat} {sc : Nat → Int32} {I : Nat → Nat → Int} {J : Nat → Nat → Int64} {q : Nat × Nat} {i : Nat} (C : zC g X (mL mn) 20 100 3000) (hnc : nc + 0 ≤ 100) (hns : ns + 0 ≤ 3000) (hW : LW g X N sc) (hi : i + 6 ≤ N) (R : Rel I J q) (K : CAN I J) (kk : ∀ I2 J2 q2, Rel I2 J2 q2 → zZ g X nc ns (zst I2 J2 q2) 1571 (lwL i) []) : zZ g X nc ns (zst I J q) 1232 (lwL i) [] := by
  obtain ⟨a, p5, hv, h5, k5⟩ := pr_near (g := g) R K (ar_r sc (i + 1)) (ar_r sc (i + 2))
  obtain ⟨x, hx⟩ := hv
  subst hx
  refine z_aload_n C 2 rfl dL_law_1232 rfl ?_
  refine z_arg C hW 1 dL_law_1233 dL_law_1234 dL_law_1235 dL_law_1236 dL_law_1237 (by omega) ?_
  refine z_arg C hW 2 dL_law_1238 dL_law_1239 dL_law_1240 dL_law_1241 dL_law_1242 (by omega) ?_
  show zZ g X _ _ _ 1243 (lwL i) (([.int (iI (ar sc (i + 1))), .int (iI (ar sc (i + 2)))] : List Value).reverse ++ .ref 0 :: [])
  refine zZ_callV C oX5_near iX5_near eX5_near lkL_163 (ci := 5) (k := 8) rfl (by decide) rfl rfl h5 rfl (by decide) hnc hns (Nat.le_of_ble_eq_true rfl) dL_law_1243 (fun r σ' hr => ?_)
  obtain ⟨hr, hLay, p6, h6, k6⟩ := k5 r σ' hr
  subst hr
  show zZ g X nc ns σ' 1246 (lwL i) [.int x]
  refine z_aload_n C 1 rfl dL_law_1246 rfl ?_
  refine z_arg C hW 1 dL_law_1247 dL_law_1248 dL_law_1249 dL_law_1250 dL_law_1251 (by omega) ?_
  refine z_arg C hW 2 dL_law_1252 dL_law_1253 dL_law_1254 dL_law_1255 dL_law_1256 (by omega) ?_
  show zZ g X _ _ _ 1257 (lwL i) (([.int (iI (ar sc (i + 1))), .int (iI (ar sc (i + 2)))] : List Value).reverse ++ .ref 58 :: [.int x])
  refine zZ_callV C oX6_near iX6_near eX6_near lkL_166 (ci := 6) (k := 30) (by rw [hLay]; rfl) (by decide) rfl rfl h6 rfl (by decide) hnc hns (Nat.le_of_ble_eq_true rfl) dL_law_1257 (fun r2 σ2 hr2 => ?_)
  obtain ⟨hr2, I2, J2, q2, R2, hσ⟩ := k6 r2 σ2 hr2
  subst hr2
  subst hσ
  show zZ g X nc ns (zst I2 J2 q2) 1260 (lwL i) [.int x, .int x]
  exact z_same C 1571 dL_law_1260 (by decide) (kk I2 J2 q2 R2)
theorem lw_36 {g : zG} {X : zX} {mn : String} {nc ns N : Nat} {sc : Nat → Int32} {I : Nat → Nat → Int} {J : Nat → Nat → Int64} {q : Nat × Nat} {i : Nat} (C : zC g X (mL mn) 20 100 3000) (hnc : nc + 0 ≤ 100) (hns : ns + 0 ≤ 3000) (hW : LW g X N sc) (hi : i + 6 ≤ N) (R : Rel I J q) (K : CAN I J) (kk : ∀ I2 J2 q2, Rel I2 J2 q2 → zZ g X nc ns (zst I2 J2 q2) 1571 (lwL i) []) : zZ g X nc ns (zst I J q) 1265 (lwL i) [] := by
  obtain ⟨a, p5, hv, h5, k5⟩ := pr_steps (g := g) R K 
  obtain ⟨x, hx⟩ := hv
  subst hx
  refine z_aload_n C 2 rfl dL_law_1265 rfl ?_
  show zZ g X _ _ _ 1266 (lwL i) (([] : List Value).reverse ++ .ref 0 :: [])
  refine zZ_callV C oX5_steps iX5_steps eX5_steps lkL_167 (ci := 5) (k := 8) rfl (by decide) rfl rfl h5 rfl (by decide) hnc hns (Nat.le_of_ble_eq_true rfl) dL_law_1266 (fun r σ' hr => ?_)
  obtain ⟨hr, hLay, p6, h6, k6⟩ := k5 r σ' hr
  subst hr
  show zZ g X nc ns σ' 1269 (lwL i) [.int x]
  refine z_aload_n C 1 rfl dL_law_1269 rfl ?_
  show zZ g X _ _ _ 1270 (lwL i) (([] : List Value).reverse ++ .ref 58 :: [.int x])
  refine zZ_callV C oX6_steps_ iX6_steps_ eX6_steps_ lkL_170 (ci := 6) (k := 30) (by rw [hLay]; rfl) (by decide) rfl rfl h6 rfl (by decide) hnc hns (Nat.le_of_ble_eq_true rfl) dL_law_1270 (fun r2 σ2 hr2 => ?_)
  obtain ⟨hr2, I2, J2, q2, R2, hσ⟩ := k6 r2 σ2 hr2
  subst hr2
  subst hσ
  show zZ g X nc ns (zst I2 J2 q2) 1273 (lwL i) [.int x, .int x]
  exact z_same C 1571 dL_law_1273 (by decide) (kk I2 J2 q2 R2)
theorem lw_37 {g : zG} {X : zX} {mn : String} {nc ns N : Nat} {sc : Nat → Int32} {I : Nat → Nat → Int} {J : Nat → Nat → Int64} {q : Nat × Nat} {i : Nat} (C : zC g X (mL mn) 20 100 3000) (hnc : nc + 0 ≤ 100) (hns : ns + 0 ≤ 3000) (hW : LW g X N sc) (hi : i + 6 ≤ N) (R : Rel I J q) (K : CAN I J) (kk : ∀ I2 J2 q2, Rel I2 J2 q2 → zZ g X nc ns (zst I2 J2 q2) 1571 (lwL i) []) : zZ g X nc ns (zst I J q) 1278 (lwL i) [] := by
  obtain ⟨a, p5, hv, h5, k5⟩ := pr_best (g := g) R K 
  obtain ⟨x, hx⟩ := hv
  subst hx
  refine z_aload_n C 2 rfl dL_law_1278 rfl ?_
  show zZ g X _ _ _ 1279 (lwL i) (([] : List Value).reverse ++ .ref 0 :: [])
  refine zZ_callV C oX5_best iX5_best eX5_best lkL_171 (ci := 5) (k := 8) rfl (by decide) rfl rfl h5 rfl (by decide) hnc hns (Nat.le_of_ble_eq_true rfl) dL_law_1279 (fun r σ' hr => ?_)
  obtain ⟨hr, hLay, p6, h6, k6⟩ := k5 r σ' hr
  subst hr
  show zZ g X nc ns σ' 1282 (lwL i) [.int x]
  refine z_aload_n C 1 rfl dL_law_1282 rfl ?_
  show zZ g X _ _ _ 1283 (lwL i) (([] : List Value).reverse ++ .ref 58 :: [.int x])
  refine zZ_callV C oX6_best iX6_best eX6_best lkL_174 (ci := 6) (k := 30) (by rw [hLay]; rfl) (by decide) rfl rfl h6 rfl (by decide) hnc hns (Nat.le_of_ble_eq_true rfl) dL_law_1283 (fun r2 σ2 hr2 => ?_)
  obtain ⟨hr2, I2, J2, q2, R2, hσ⟩ := k6 r2 σ2 hr2
  subst hr2
  subst hσ
  show zZ g X nc ns (zst I2 J2 q2) 1286 (lwL i) [.int x, .int x]
  exact z_same C 1571 dL_law_1286 (by decide) (kk I2 J2 q2 R2)
theorem lw_38 {g : zG} {X : zX} {mn : String} {nc ns N : Nat} {sc : Nat → Int32} {I : Nat → Nat → Int} {J : Nat → Nat → Int64} {q : Nat × Nat} {i : Nat} (C : zC g X (mL mn) 20 100 3000) (hnc : nc + 0 ≤ 100) (hns : ns + 0 ≤ 3000) (hW : LW g X N sc) (hi : i + 6 ≤ N) (R : Rel I J q) (K : CAN I J) (kk : ∀ I2 J2 q2, Rel I2 J2 q2 → zZ g X nc ns (zst I2 J2 q2) 1571 (lwL i) []) : zZ g X nc ns (zst I J q) 1291 (lwL i) [] := by
  obtain ⟨a, p5, hv, h5, k5⟩ := pr_kinds (g := g) R K (ar_r sc (i + 1)) (ar_r sc (i + 2)) (ar_r sc (i + 3)) (ar_r sc (i + 4))
  obtain ⟨x, hx⟩ := hv
  subst hx
  refine z_aload_n C 2 rfl dL_law_1291 rfl ?_
  refine z_arg C hW 1 dL_law_1292 dL_law_1293 dL_law_1294 dL_law_1295 dL_law_1296 (by omega) ?_
  refine z_arg C hW 2 dL_law_1297 dL_law_1298 dL_law_1299 dL_law_1300 dL_law_1301 (by omega) ?_
  refine z_arg C hW 3 dL_law_1302 dL_law_1303 dL_law_1304 dL_law_1305 dL_law_1306 (by omega) ?_
  refine z_arg C hW 4 dL_law_1307 dL_law_1308 dL_law_1309 dL_law_1310 dL_law_1311 (by omega) ?_
  show zZ g X _ _ _ 1312 (lwL i) (([.int (iI (ar sc (i + 1))), .int (iI (ar sc (i + 2))), .int (iI (ar sc (i + 3))), .int (iI (ar sc (i + 4)))] : List Value).reverse ++ .ref 0 :: [])
  refine zZ_callV C oX5_kinds iX5_kinds eX5_kinds lkL_175 (ci := 5) (k := 8) rfl (by decide) rfl rfl h5 rfl (by decide) hnc hns (Nat.le_of_ble_eq_true rfl) dL_law_1312 (fun r σ' hr => ?_)
  obtain ⟨hr, hLay, p6, h6, k6⟩ := k5 r σ' hr
  subst hr
  show zZ g X nc ns σ' 1315 (lwL i) [.int x]
  refine z_aload_n C 1 rfl dL_law_1315 rfl ?_
  refine z_arg C hW 1 dL_law_1316 dL_law_1317 dL_law_1318 dL_law_1319 dL_law_1320 (by omega) ?_
  refine z_arg C hW 2 dL_law_1321 dL_law_1322 dL_law_1323 dL_law_1324 dL_law_1325 (by omega) ?_
  refine z_arg C hW 3 dL_law_1326 dL_law_1327 dL_law_1328 dL_law_1329 dL_law_1330 (by omega) ?_
  refine z_arg C hW 4 dL_law_1331 dL_law_1332 dL_law_1333 dL_law_1334 dL_law_1335 (by omega) ?_
  show zZ g X _ _ _ 1336 (lwL i) (([.int (iI (ar sc (i + 1))), .int (iI (ar sc (i + 2))), .int (iI (ar sc (i + 3))), .int (iI (ar sc (i + 4)))] : List Value).reverse ++ .ref 58 :: [.int x])
  refine zZ_callV C oX6_kinds iX6_kinds eX6_kinds lkL_179 (ci := 6) (k := 30) (by rw [hLay]; rfl) (by decide) rfl rfl h6 rfl (by decide) hnc hns (Nat.le_of_ble_eq_true rfl) dL_law_1336 (fun r2 σ2 hr2 => ?_)
  obtain ⟨hr2, I2, J2, q2, R2, hσ⟩ := k6 r2 σ2 hr2
  subst hr2
  subst hσ
  show zZ g X nc ns (zst I2 J2 q2) 1339 (lwL i) [.int x, .int x]
  exact z_same C 1571 dL_law_1339 (by decide) (kk I2 J2 q2 R2)
theorem lw_39 {g : zG} {X : zX} {mn : String} {nc ns N : Nat} {sc : Nat → Int32} {I : Nat → Nat → Int} {J : Nat → Nat → Int64} {q : Nat × Nat} {i : Nat} (C : zC g X (mL mn) 20 100 3000) (hnc : nc + 0 ≤ 100) (hns : ns + 0 ≤ 3000) (hW : LW g X N sc) (hi : i + 6 ≤ N) (R : Rel I J q) (K : CAN I J) (kk : ∀ I2 J2 q2, Rel I2 J2 q2 → zZ g X nc ns (zst I2 J2 q2) 1571 (lwL i) []) : zZ g X nc ns (zst I J q) 1344 (lwL i) [] := by
  obtain ⟨a, p5, hv, h5, k5⟩ := pr_judge (g := g) R K (ar_r sc (i + 1)) (ar_r sc (i + 2))
  obtain ⟨x, hx⟩ := hv
  subst hx
  refine z_aload_n C 2 rfl dL_law_1344 rfl ?_
  refine z_arg C hW 1 dL_law_1345 dL_law_1346 dL_law_1347 dL_law_1348 dL_law_1349 (by omega) ?_
  refine z_arg C hW 2 dL_law_1350 dL_law_1351 dL_law_1352 dL_law_1353 dL_law_1354 (by omega) ?_
  show zZ g X _ _ _ 1355 (lwL i) (([.int (iI (ar sc (i + 1))), .int (iI (ar sc (i + 2)))] : List Value).reverse ++ .ref 0 :: [])
  refine zZ_callV C oX5_judge iX5_judge eX5_judge lkL_180 (ci := 5) (k := 8) rfl (by decide) rfl rfl h5 rfl (by decide) hnc hns (Nat.le_of_ble_eq_true rfl) dL_law_1355 (fun r σ' hr => ?_)
  obtain ⟨hr, hLay, p6, h6, k6⟩ := k5 r σ' hr
  subst hr
  show zZ g X nc ns σ' 1358 (lwL i) [.int x]
  refine z_aload_n C 1 rfl dL_law_1358 rfl ?_
  refine z_arg C hW 1 dL_law_1359 dL_law_1360 dL_law_1361 dL_law_1362 dL_law_1363 (by omega) ?_
  refine z_arg C hW 2 dL_law_1364 dL_law_1365 dL_law_1366 dL_law_1367 dL_law_1368 (by omega) ?_
  show zZ g X _ _ _ 1369 (lwL i) (([.int (iI (ar sc (i + 1))), .int (iI (ar sc (i + 2)))] : List Value).reverse ++ .ref 58 :: [.int x])
  refine zZ_callV C oX6_judge iX6_judge eX6_judge lkL_183 (ci := 6) (k := 30) (by rw [hLay]; rfl) (by decide) rfl rfl h6 rfl (by decide) hnc hns (Nat.le_of_ble_eq_true rfl) dL_law_1369 (fun r2 σ2 hr2 => ?_)
  obtain ⟨hr2, I2, J2, q2, R2, hσ⟩ := k6 r2 σ2 hr2
  subst hr2
  subst hσ
  show zZ g X nc ns (zst I2 J2 q2) 1372 (lwL i) [.int x, .int x]
  exact z_same C 1571 dL_law_1372 (by decide) (kk I2 J2 q2 R2)
theorem lw_40 {g : zG} {X : zX} {mn : String} {nc ns N : Nat} {sc : Nat → Int32} {I : Nat → Nat → Int} {J : Nat → Nat → Int64} {q : Nat × Nat} {i : Nat} (C : zC g X (mL mn) 20 100 3000) (hnc : nc + 0 ≤ 100) (hns : ns + 0 ≤ 3000) (hW : LW g X N sc) (hi : i + 6 ≤ N) (R : Rel I J q) (K : CAN I J) (kk : ∀ I2 J2 q2, Rel I2 J2 q2 → zZ g X nc ns (zst I2 J2 q2) 1571 (lwL i) []) : zZ g X nc ns (zst I J q) 1377 (lwL i) [] := by
  obtain ⟨a, p5, hv, h5, k5⟩ := pr_behind (g := g) R K (ar_r sc (i + 1)) (ar_r sc (i + 2)) (ar_r sc (i + 3))
  obtain ⟨x, hx⟩ := hv
  subst hx
  refine z_aload_n C 2 rfl dL_law_1377 rfl ?_
  refine z_arg C hW 1 dL_law_1378 dL_law_1379 dL_law_1380 dL_law_1381 dL_law_1382 (by omega) ?_
  refine z_arg C hW 2 dL_law_1383 dL_law_1384 dL_law_1385 dL_law_1386 dL_law_1387 (by omega) ?_
  refine z_arg C hW 3 dL_law_1388 dL_law_1389 dL_law_1390 dL_law_1391 dL_law_1392 (by omega) ?_
  show zZ g X _ _ _ 1393 (lwL i) (([.int (iI (ar sc (i + 1))), .int (iI (ar sc (i + 2))), .int (iI (ar sc (i + 3)))] : List Value).reverse ++ .ref 0 :: [])
  refine zZ_callV C oX5_behind iX5_behind eX5_behind lkL_184 (ci := 5) (k := 8) rfl (by decide) rfl rfl h5 rfl (by decide) hnc hns (Nat.le_of_ble_eq_true rfl) dL_law_1393 (fun r σ' hr => ?_)
  obtain ⟨hr, hLay, p6, h6, k6⟩ := k5 r σ' hr
  subst hr
  show zZ g X nc ns σ' 1396 (lwL i) [.int x]
  refine z_aload_n C 1 rfl dL_law_1396 rfl ?_
  refine z_arg C hW 1 dL_law_1397 dL_law_1398 dL_law_1399 dL_law_1400 dL_law_1401 (by omega) ?_
  refine z_arg C hW 2 dL_law_1402 dL_law_1403 dL_law_1404 dL_law_1405 dL_law_1406 (by omega) ?_
  refine z_arg C hW 3 dL_law_1407 dL_law_1408 dL_law_1409 dL_law_1410 dL_law_1411 (by omega) ?_
  show zZ g X _ _ _ 1412 (lwL i) (([.int (iI (ar sc (i + 1))), .int (iI (ar sc (i + 2))), .int (iI (ar sc (i + 3)))] : List Value).reverse ++ .ref 58 :: [.int x])
  refine zZ_callV C oX6_behind iX6_behind eX6_behind lkL_187 (ci := 6) (k := 30) (by rw [hLay]; rfl) (by decide) rfl rfl h6 rfl (by decide) hnc hns (Nat.le_of_ble_eq_true rfl) dL_law_1412 (fun r2 σ2 hr2 => ?_)
  obtain ⟨hr2, I2, J2, q2, R2, hσ⟩ := k6 r2 σ2 hr2
  subst hr2
  subst hσ
  show zZ g X nc ns (zst I2 J2 q2) 1415 (lwL i) [.int x, .int x]
  exact z_same C 1571 dL_law_1415 (by decide) (kk I2 J2 q2 R2)
theorem lw_41 {g : zG} {X : zX} {mn : String} {nc ns N : Nat} {sc : Nat → Int32} {I : Nat → Nat → Int} {J : Nat → Nat → Int64} {q : Nat × Nat} {i : Nat} (C : zC g X (mL mn) 20 100 3000) (hnc : nc + 0 ≤ 100) (hns : ns + 0 ≤ 3000) (hW : LW g X N sc) (hi : i + 6 ≤ N) (R : Rel I J q) (K : CAN I J) (kk : ∀ I2 J2 q2, Rel I2 J2 q2 → zZ g X nc ns (zst I2 J2 q2) 1571 (lwL i) []) : zZ g X nc ns (zst I J q) 1420 (lwL i) [] := by
  obtain ⟨a, p5, hv, h5, k5⟩ := pr_done (g := g) R K (ar_r sc (i + 1)) (ar_r sc (i + 2))
  obtain ⟨x, hx⟩ := hv
  subst hx
  refine z_aload_n C 2 rfl dL_law_1420 rfl ?_
  refine z_arg C hW 1 dL_law_1421 dL_law_1422 dL_law_1423 dL_law_1424 dL_law_1425 (by omega) ?_
  refine z_arg C hW 2 dL_law_1426 dL_law_1427 dL_law_1428 dL_law_1429 dL_law_1430 (by omega) ?_
  show zZ g X _ _ _ 1431 (lwL i) (([.int (iI (ar sc (i + 1))), .int (iI (ar sc (i + 2)))] : List Value).reverse ++ .ref 0 :: [])
  refine zZ_callV C oX5_done iX5_done eX5_done lkL_188 (ci := 5) (k := 8) rfl (by decide) rfl rfl h5 rfl (by decide) hnc hns (Nat.le_of_ble_eq_true rfl) dL_law_1431 (fun r σ' hr => ?_)
  obtain ⟨hr, hLay, p6, h6, k6⟩ := k5 r σ' hr
  subst hr
  show zZ g X nc ns σ' 1434 (lwL i) [.int x]
  refine z_aload_n C 1 rfl dL_law_1434 rfl ?_
  refine z_arg C hW 1 dL_law_1435 dL_law_1436 dL_law_1437 dL_law_1438 dL_law_1439 (by omega) ?_
  refine z_arg C hW 2 dL_law_1440 dL_law_1441 dL_law_1442 dL_law_1443 dL_law_1444 (by omega) ?_
  show zZ g X _ _ _ 1445 (lwL i) (([.int (iI (ar sc (i + 1))), .int (iI (ar sc (i + 2)))] : List Value).reverse ++ .ref 58 :: [.int x])
  refine zZ_callV C oX6_done iX6_done eX6_done lkL_191 (ci := 6) (k := 30) (by rw [hLay]; rfl) (by decide) rfl rfl h6 rfl (by decide) hnc hns (Nat.le_of_ble_eq_true rfl) dL_law_1445 (fun r2 σ2 hr2 => ?_)
  obtain ⟨hr2, I2, J2, q2, R2, hσ⟩ := k6 r2 σ2 hr2
  subst hr2
  subst hσ
  show zZ g X nc ns (zst I2 J2 q2) 1448 (lwL i) [.int x, .int x]
  exact z_same C 1571 dL_law_1448 (by decide) (kk I2 J2 q2 R2)
theorem lw_42 {g : zG} {X : zX} {mn : String} {nc ns N : Nat} {sc : Nat → Int32} {I : Nat → Nat → Int} {J : Nat → Nat → Int64} {q : Nat × Nat} {i : Nat} (C : zC g X (mL mn) 20 100 3000) (hnc : nc + 0 ≤ 100) (hns : ns + 0 ≤ 3000) (hW : LW g X N sc) (hi : i + 6 ≤ N) (R : Rel I J q) (K : CAN I J) (kk : ∀ I2 J2 q2, Rel I2 J2 q2 → zZ g X nc ns (zst I2 J2 q2) 1571 (lwL i) []) : zZ g X nc ns (zst I J q) 1453 (lwL i) [] := by
  obtain ⟨a, p5, hv, h5, k5⟩ := pr_turn (g := g) R K (ar_r sc (i + 1))
  obtain ⟨x, hx⟩ := hv
  subst hx
  refine z_aload_n C 2 rfl dL_law_1453 rfl ?_
  refine z_arg C hW 1 dL_law_1454 dL_law_1455 dL_law_1456 dL_law_1457 dL_law_1458 (by omega) ?_
  show zZ g X _ _ _ 1459 (lwL i) (([.int (iI (ar sc (i + 1)))] : List Value).reverse ++ .ref 0 :: [])
  refine zZ_callV C oX5_turn iX5_turn eX5_turn lkL_192 (ci := 5) (k := 8) rfl (by decide) rfl rfl h5 rfl (by decide) hnc hns (Nat.le_of_ble_eq_true rfl) dL_law_1459 (fun r σ' hr => ?_)
  obtain ⟨hr, hLay, p6, h6, k6⟩ := k5 r σ' hr
  subst hr
  show zZ g X nc ns σ' 1462 (lwL i) [.int x]
  refine z_aload_n C 1 rfl dL_law_1462 rfl ?_
  refine z_arg C hW 1 dL_law_1463 dL_law_1464 dL_law_1465 dL_law_1466 dL_law_1467 (by omega) ?_
  show zZ g X _ _ _ 1468 (lwL i) (([.int (iI (ar sc (i + 1)))] : List Value).reverse ++ .ref 58 :: [.int x])
  refine zZ_callV C oX6_turn iX6_turn eX6_turn lkL_195 (ci := 6) (k := 30) (by rw [hLay]; rfl) (by decide) rfl rfl h6 rfl (by decide) hnc hns (Nat.le_of_ble_eq_true rfl) dL_law_1468 (fun r2 σ2 hr2 => ?_)
  obtain ⟨hr2, I2, J2, q2, R2, hσ⟩ := k6 r2 σ2 hr2
  subst hr2
  subst hσ
  show zZ g X nc ns (zst I2 J2 q2) 1471 (lwL i) [.int x, .int x]
  exact z_same C 1571 dL_law_1471 (by decide) (kk I2 J2 q2 R2)
theorem lw_43 {g : zG} {X : zX} {mn : String} {nc ns N : Nat} {sc : Nat → Int32} {I : Nat → Nat → Int} {J : Nat → Nat → Int64} {q : Nat × Nat} {i : Nat} (C : zC g X (mL mn) 20 100 3000) (hnc : nc + 0 ≤ 100) (hns : ns + 0 ≤ 3000) (hW : LW g X N sc) (hi : i + 6 ≤ N) (R : Rel I J q) (K : CAN I J) (kk : ∀ I2 J2 q2, Rel I2 J2 q2 → zZ g X nc ns (zst I2 J2 q2) 1571 (lwL i) []) : zZ g X nc ns (zst I J q) 1476 (lwL i) [] := by
  obtain ⟨a, p5, hv, h5, k5⟩ := pr_evening (g := g) R K (ar_r sc (i + 1))
  obtain ⟨x, hx⟩ := hv
  subst hx
  refine z_aload_n C 2 rfl dL_law_1476 rfl ?_
  refine z_arg C hW 1 dL_law_1477 dL_law_1478 dL_law_1479 dL_law_1480 dL_law_1481 (by omega) ?_
  show zZ g X _ _ _ 1482 (lwL i) (([.int (iI (ar sc (i + 1)))] : List Value).reverse ++ .ref 0 :: [])
  refine zZ_callV C oX5_evening iX5_evening eX5_evening lkL_196 (ci := 5) (k := 8) rfl (by decide) rfl rfl h5 rfl (by decide) hnc hns (Nat.le_of_ble_eq_true rfl) dL_law_1482 (fun r σ' hr => ?_)
  obtain ⟨hr, hLay, p6, h6, k6⟩ := k5 r σ' hr
  subst hr
  show zZ g X nc ns σ' 1485 (lwL i) [.int x]
  refine z_aload_n C 1 rfl dL_law_1485 rfl ?_
  refine z_arg C hW 1 dL_law_1486 dL_law_1487 dL_law_1488 dL_law_1489 dL_law_1490 (by omega) ?_
  show zZ g X _ _ _ 1491 (lwL i) (([.int (iI (ar sc (i + 1)))] : List Value).reverse ++ .ref 58 :: [.int x])
  refine zZ_callV C oX6_evening iX6_evening eX6_evening lkL_199 (ci := 6) (k := 30) (by rw [hLay]; rfl) (by decide) rfl rfl h6 rfl (by decide) hnc hns (Nat.le_of_ble_eq_true rfl) dL_law_1491 (fun r2 σ2 hr2 => ?_)
  obtain ⟨hr2, I2, J2, q2, R2, hσ⟩ := k6 r2 σ2 hr2
  subst hr2
  subst hσ
  show zZ g X nc ns (zst I2 J2 q2) 1494 (lwL i) [.int x, .int x]
  exact z_same C 1571 dL_law_1494 (by decide) (kk I2 J2 q2 R2)
theorem lw_44 {g : zG} {X : zX} {mn : String} {nc ns N : Nat} {sc : Nat → Int32} {I : Nat → Nat → Int} {J : Nat → Nat → Int64} {q : Nat × Nat} {i : Nat} (C : zC g X (mL mn) 20 100 3000) (hnc : nc + 0 ≤ 100) (hns : ns + 0 ≤ 3000) (hW : LW g X N sc) (hi : i + 6 ≤ N) (R : Rel I J q) (K : CAN I J) (kk : ∀ I2 J2 q2, Rel I2 J2 q2 → zZ g X nc ns (zst I2 J2 q2) 1571 (lwL i) []) : zZ g X nc ns (zst I J q) 1499 (lwL i) [] := by
  obtain ⟨a, p5, hv, h5, k5⟩ := pr_seed (g := g) R K (v := (ar sc (i + 1)))
  obtain ⟨x, hx⟩ := hv
  subst hx
  refine z_aload_n C 2 rfl dL_law_1499 rfl ?_
  refine z_arg C hW 1 dL_law_1500 dL_law_1501 dL_law_1502 dL_law_1503 dL_law_1504 (by omega) ?_
  show zZ g X _ _ _ 1505 (lwL i) (([.int (iI (ar sc (i + 1)))] : List Value).reverse ++ .ref 0 :: [])
  refine zZ_callV C oX5_seed iX5_seed eX5_seed lkL_200 (ci := 5) (k := 8) rfl (by decide) rfl rfl h5 rfl (by decide) hnc hns (Nat.le_of_ble_eq_true rfl) dL_law_1505 (fun r σ' hr => ?_)
  obtain ⟨hr, hLay, p6, h6, k6⟩ := k5 r σ' hr
  subst hr
  show zZ g X nc ns σ' 1508 (lwL i) [.int x]
  refine z_aload_n C 1 rfl dL_law_1508 rfl ?_
  refine z_arg C hW 1 dL_law_1509 dL_law_1510 dL_law_1511 dL_law_1512 dL_law_1513 (by omega) ?_
  show zZ g X _ _ _ 1514 (lwL i) (([.int (iI (ar sc (i + 1)))] : List Value).reverse ++ .ref 58 :: [.int x])
  refine zZ_callV C oX6_seed iX6_seed eX6_seed lkL_203 (ci := 6) (k := 30) (by rw [hLay]; rfl) (by decide) rfl rfl h6 rfl (by decide) hnc hns (Nat.le_of_ble_eq_true rfl) dL_law_1514 (fun r2 σ2 hr2 => ?_)
  obtain ⟨hr2, I2, J2, q2, R2, hσ⟩ := k6 r2 σ2 hr2
  subst hr2
  subst hσ
  show zZ g X nc ns (zst I2 J2 q2) 1517 (lwL i) [.int x, .int x]
  exact z_same C 1571 dL_law_1517 (by decide) (kk I2 J2 q2 R2)
theorem lw_45 {g : zG} {X : zX} {mn : String} {nc ns N : Nat} {sc : Nat → Int32} {I : Nat → Nat → Int} {J : Nat → Nat → Int64} {q : Nat × Nat} {i : Nat} (C : zC g X (mL mn) 20 100 3000) (hnc : nc + 0 ≤ 100) (hns : ns + 0 ≤ 3000) (hW : LW g X N sc) (hi : i + 6 ≤ N) (R : Rel I J q) (K : CAN I J) (kk : ∀ I2 J2 q2, Rel I2 J2 q2 → zZ g X nc ns (zst I2 J2 q2) 1571 (lwL i) []) : zZ g X nc ns (zst I J q) 1522 (lwL i) [] := by
  obtain ⟨a, p5, hv, h5, k5⟩ := pr_image (g := g) R K 
  obtain ⟨x, hx⟩ := hv
  subst hx
  refine z_aload_n C 2 rfl dL_law_1522 rfl ?_
  show zZ g X _ _ _ 1523 (lwL i) (([] : List Value).reverse ++ .ref 0 :: [])
  refine zZ_callV C oX5_image iX5_image eX5_image lkL_204 (ci := 5) (k := 8) rfl (by decide) rfl rfl h5 rfl (by decide) hnc hns (Nat.le_of_ble_eq_true rfl) dL_law_1523 (fun r σ' hr => ?_)
  obtain ⟨hr, hLay, p6, h6, k6⟩ := k5 r σ' hr
  subst hr
  show zZ g X nc ns σ' 1526 (lwL i) [.int x]
  refine z_aload_n C 1 rfl dL_law_1526 rfl ?_
  show zZ g X _ _ _ 1527 (lwL i) (([] : List Value).reverse ++ .ref 58 :: [.int x])
  refine zZ_callV C oX6_image iX6_image eX6_image lkL_207 (ci := 6) (k := 30) (by rw [hLay]; rfl) (by decide) rfl rfl h6 rfl (by decide) hnc hns (Nat.le_of_ble_eq_true rfl) dL_law_1527 (fun r2 σ2 hr2 => ?_)
  obtain ⟨hr2, I2, J2, q2, R2, hσ⟩ := k6 r2 σ2 hr2
  subst hr2
  subst hσ
  show zZ g X nc ns (zst I2 J2 q2) 1530 (lwL i) [.int x, .int x]
  exact z_same C 1571 dL_law_1530 (by decide) (kk I2 J2 q2 R2)
theorem lw_46 {g : zG} {X : zX} {mn : String} {nc ns N : Nat} {sc : Nat → Int32} {I : Nat → Nat → Int} {J : Nat → Nat → Int64} {q : Nat × Nat} {i : Nat} (C : zC g X (mL mn) 20 100 3000) (hnc : nc + 0 ≤ 100) (hns : ns + 0 ≤ 3000) (hW : LW g X N sc) (hi : i + 6 ≤ N) (R : Rel I J q) (K : CAN I J) (kk : ∀ I2 J2 q2, Rel I2 J2 q2 → zZ g X nc ns (zst I2 J2 q2) 1571 (lwL i) []) : zZ g X nc ns (zst I J q) 1535 (lwL i) [] := by
  obtain ⟨a, p5, hv, h5, k5⟩ := pr_back (g := g) R K 
  obtain ⟨x, hx⟩ := hv
  subst hx
  refine z_aload_n C 2 rfl dL_law_1535 rfl ?_
  show zZ g X _ _ _ 1536 (lwL i) (([] : List Value).reverse ++ .ref 0 :: [])
  refine zZ_callV C oX5_back iX5_back eX5_back lkL_208 (ci := 5) (k := 8) rfl (by decide) rfl rfl h5 rfl (by decide) hnc hns (Nat.le_of_ble_eq_true rfl) dL_law_1536 (fun r σ' hr => ?_)
  obtain ⟨hr, hLay, p6, h6, k6⟩ := k5 r σ' hr
  subst hr
  show zZ g X nc ns σ' 1539 (lwL i) [.int x]
  refine z_aload_n C 1 rfl dL_law_1539 rfl ?_
  show zZ g X _ _ _ 1540 (lwL i) (([] : List Value).reverse ++ .ref 58 :: [.int x])
  refine zZ_callV C oX6_back iX6_back eX6_back lkL_211 (ci := 6) (k := 30) (by rw [hLay]; rfl) (by decide) rfl rfl h6 rfl (by decide) hnc hns (Nat.le_of_ble_eq_true rfl) dL_law_1540 (fun r2 σ2 hr2 => ?_)
  obtain ⟨hr2, I2, J2, q2, R2, hσ⟩ := k6 r2 σ2 hr2
  subst hr2
  subst hσ
  show zZ g X nc ns (zst I2 J2 q2) 1543 (lwL i) [.int x, .int x]
  exact z_same C 1571 dL_law_1543 (by decide) (kk I2 J2 q2 R2)
theorem lw_47 {g : zG} {X : zX} {mn : String} {nc ns N : Nat} {sc : Nat → Int32} {I : Nat → Nat → Int} {J : Nat → Nat → Int64} {q : Nat × Nat} {i : Nat} (C : zC g X (mL mn) 20 100 3000) (hnc : nc + 0 ≤ 100) (hns : ns + 0 ≤ 3000) (hW : LW g X N sc) (hi : i + 6 ≤ N) (R : Rel I J q) (K : CAN I J) (kk : ∀ I2 J2 q2, Rel I2 J2 q2 → zZ g X nc ns (zst I2 J2 q2) 1571 (lwL i) []) : zZ g X nc ns (zst I J q) 1548 (lwL i) [] := by
  obtain ⟨a, p5, hv, h5, k5⟩ := pr_status (g := g) R K (ar_r sc (i + 1))
  obtain ⟨x, hx⟩ := hv
  subst hx
  refine z_aload_n C 2 rfl dL_law_1548 rfl ?_
  refine z_arg C hW 1 dL_law_1549 dL_law_1550 dL_law_1551 dL_law_1552 dL_law_1553 (by omega) ?_
  show zZ g X _ _ _ 1554 (lwL i) (([.int (iI (ar sc (i + 1)))] : List Value).reverse ++ .ref 0 :: [])
  refine zZ_callV C oX5_status iX5_status eX5_status lkL_212 (ci := 5) (k := 8) rfl (by decide) rfl rfl h5 rfl (by decide) hnc hns (Nat.le_of_ble_eq_true rfl) dL_law_1554 (fun r σ' hr => ?_)
  obtain ⟨hr, hLay, p6, h6, k6⟩ := k5 r σ' hr
  subst hr
  show zZ g X nc ns σ' 1557 (lwL i) [.int x]
  refine z_aload_n C 1 rfl dL_law_1557 rfl ?_
  refine z_arg C hW 1 dL_law_1558 dL_law_1559 dL_law_1560 dL_law_1561 dL_law_1562 (by omega) ?_
  show zZ g X _ _ _ 1563 (lwL i) (([.int (iI (ar sc (i + 1)))] : List Value).reverse ++ .ref 58 :: [.int x])
  refine zZ_callV C oX6_status iX6_status eX6_status lkL_215 (ci := 6) (k := 30) (by rw [hLay]; rfl) (by decide) rfl rfl h6 rfl (by decide) hnc hns (Nat.le_of_ble_eq_true rfl) dL_law_1563 (fun r2 σ2 hr2 => ?_)
  obtain ⟨hr2, I2, J2, q2, R2, hσ⟩ := k6 r2 σ2 hr2
  subst hr2
  subst hσ
  show zZ g X nc ns (zst I2 J2 q2) 1566 (lwL i) [.int x, .int x]
  exact z_same C 1571 dL_law_1566 (by decide) (kk I2 J2 q2 R2)
