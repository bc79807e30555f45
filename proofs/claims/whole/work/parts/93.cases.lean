theorem lg_cmp_self (y : Int64) : lg_cmp y y = 0 := by
  unfold lg_cmp
  simp
section Rows93
variable {p : Program} {l : Launch} {e : Env} {s : State} {m : MethodId} {below : List Frame} {meth : Method} {c : Code} {D : va_G} {cy : Nat → ClassId} {ad : Nat → Nat} {b n : Nat} {xs : Nat → Int32} {x : Int32} {v : Mm} {L : Lm}
set_option maxRecDepth 20000 in
theorem case_0 (X : LX p s m meth c D cy ad b n xs) (h1 : vp_in (x + 1) n) (h2 : vp_in (x + 2) n) (h3 : vp_in (x + 3) n) (h4 : vp_in (x + 4) n) (hR : R v L) (kk : ∀ v' L', R v' L' → GL p l e s m below meth c D cy ad b x 1084 [] v' L') : GL p l e s m below meth c D cy ad b x 164 [] v L := by
  refine l_a1 X dL_law_164 ?_
  refine l_arg X 1 dL_law_165 dL_law_166 dL_law_167 dL_law_168 dL_law_169 rfl h1 ?_
  refine l_call X (sb_write hR) cf9 rfl dL_law_170 cw_RL_13 rfl (by decide) rfl (by decide) (fun a v1 L1 hq => ?_)
  refine l_a2 X dL_law_173 ?_
  refine l_arg X 1 dL_law_174 dL_law_175 dL_law_176 dL_law_177 dL_law_178 rfl h1 ?_
  refine l_call X hq cf10 rfl dL_law_179 cw_RL_17 rfl (by decide) rfl (cat_opt a) (fun a2 v2 L2 hq2 => ?_)
  obtain ⟨rfl, ⟨y, rfl⟩, hR2⟩ := hq2
  refine l_eq (y := y) (st := []) X 1084 dL_law_182 rfl ?_
  exact kk _ _ hR2
set_option maxRecDepth 20000 in
theorem case_1 (X : LX p s m meth c D cy ad b n xs) (h1 : vp_in (x + 1) n) (h2 : vp_in (x + 2) n) (h3 : vp_in (x + 3) n) (h4 : vp_in (x + 4) n) (hR : R v L) (kk : ∀ v' L', R v' L' → GL p l e s m below meth c D cy ad b x 1084 [] v' L') : GL p l e s m below meth c D cy ad b x 187 [] v L := by
  refine l_a1 X dL_law_187 ?_
  refine l_call X (sb_wipe hR) cf9 rfl dL_law_188 cw_RL_18 rfl (by decide) rfl (by decide) (fun a v1 L1 hq => ?_)
  refine l_a2 X dL_law_191 ?_
  refine l_call X hq cf10 rfl dL_law_192 cw_RL_22 rfl (by decide) rfl (cat_opt a) (fun a2 v2 L2 hq2 => ?_)
  obtain ⟨rfl, ⟨y, rfl⟩, hR2⟩ := hq2
  refine l_eq (y := y) (st := []) X 1084 dL_law_195 rfl ?_
  exact kk _ _ hR2
set_option maxRecDepth 20000 in
theorem case_2 (X : LX p s m meth c D cy ad b n xs) (h1 : vp_in (x + 1) n) (h2 : vp_in (x + 2) n) (h3 : vp_in (x + 3) n) (h4 : vp_in (x + 4) n) (hR : R v L) (kk : ∀ v' L', R v' L' → GL p l e s m below meth c D cy ad b x 1084 [] v' L') : GL p l e s m below meth c D cy ad b x 200 [] v L := by
  refine l_a1 X dL_law_200 ?_
  refine l_call X (sb_fault hR) cf9 rfl dL_law_201 cw_RL_23 rfl (by decide) rfl (by decide) (fun a v1 L1 hq => ?_)
  refine l_a2 X dL_law_204 ?_
  refine l_call X hq cf10 rfl dL_law_205 cw_RL_26 rfl (by decide) rfl (cat_opt a) (fun a2 v2 L2 hq2 => ?_)
  obtain ⟨rfl, ⟨y, rfl⟩, hR2⟩ := hq2
  refine l_eq (y := y) (st := []) X 1084 dL_law_208 rfl ?_
  exact kk _ _ hR2
set_option maxRecDepth 20000 in
theorem case_3 (X : LX p s m meth c D cy ad b n xs) (h1 : vp_in (x + 1) n) (h2 : vp_in (x + 2) n) (h3 : vp_in (x + 3) n) (h4 : vp_in (x + 4) n) (hR : R v L) (kk : ∀ v' L', R v' L' → GL p l e s m below meth c D cy ad b x 1084 [] v' L') : GL p l e s m below meth c D cy ad b x 213 [] v L := by
  refine l_a1 X dL_law_213 ?_
  refine l_call X (sb_desk hR) cf9 rfl dL_law_214 cw_RL_27 rfl (by decide) rfl (by decide) (fun a v1 L1 hq => ?_)
  refine l_a2 X dL_law_217 ?_
  refine l_call X hq cf10 rfl dL_law_218 cw_RL_30 rfl (by decide) rfl (cat_opt a) (fun a2 v2 L2 hq2 => ?_)
  obtain ⟨rfl, ⟨y, rfl⟩, hR2⟩ := hq2
  refine l_eq (y := y) (st := []) X 1084 dL_law_221 rfl ?_
  exact kk _ _ hR2
set_option maxRecDepth 20000 in
theorem case_4 (X : LX p s m meth c D cy ad b n xs) (h1 : vp_in (x + 1) n) (h2 : vp_in (x + 2) n) (h3 : vp_in (x + 3) n) (h4 : vp_in (x + 4) n) (hR : R v L) (kk : ∀ v' L', R v' L' → GL p l e s m below meth c D cy ad b x 1084 [] v' L') : GL p l e s m below meth c D cy ad b x 226 [] v L := by
  refine l_a1 X dL_law_226 ?_
  refine l_arg X 1 dL_law_227 dL_law_228 dL_law_229 dL_law_230 dL_law_231 rfl h1 ?_
  refine l_arg X 2 dL_law_232 dL_law_233 dL_law_234 dL_law_235 dL_law_236 rfl h2 ?_
  refine l_i2l X dL_law_237 ?_
  refine l_bi X 32 rfl dL_law_238 ?_
  refine l_lshl X dL_law_240 ?_
  refine l_arg X 3 dL_law_241 dL_law_242 dL_law_243 dL_law_244 dL_law_245 rfl h3 ?_
  refine l_i2l X dL_law_246 ?_
  refine l_ldc2 X dL_law_247 ?_
  refine l_land X dL_law_250 ?_
  refine l_lor X dL_law_251 ?_
  refine l_call X (sb_word hR) cf9 rfl dL_law_252 cw_RL_33 rfl (by decide) rfl (by decide) (fun a v1 L1 hq => ?_)
  refine l_a2 X dL_law_255 ?_
  refine l_arg X 1 dL_law_256 dL_law_257 dL_law_258 dL_law_259 dL_law_260 rfl h1 ?_
  refine l_arg X 2 dL_law_261 dL_law_262 dL_law_263 dL_law_264 dL_law_265 rfl h2 ?_
  refine l_i2l X dL_law_266 ?_
  refine l_bi X 32 rfl dL_law_267 ?_
  refine l_lshl X dL_law_269 ?_
  refine l_arg X 3 dL_law_270 dL_law_271 dL_law_272 dL_law_273 dL_law_274 rfl h3 ?_
  refine l_i2l X dL_law_275 ?_
  refine l_ldc2 X dL_law_276 ?_
  refine l_land X dL_law_279 ?_
  refine l_lor X dL_law_280 ?_
  refine l_call X hq cf10 rfl dL_law_281 cw_RL_37 rfl (by decide) rfl (cat_opt a) (fun a2 v2 L2 hq2 => ?_)
  obtain ⟨rfl, ⟨y, rfl⟩, hR2⟩ := hq2
  refine l_eq (y := y) (st := []) X 1084 dL_law_284 rfl ?_
  exact kk _ _ hR2
set_option maxRecDepth 20000 in
theorem case_5 (X : LX p s m meth c D cy ad b n xs) (h1 : vp_in (x + 1) n) (h2 : vp_in (x + 2) n) (h3 : vp_in (x + 3) n) (h4 : vp_in (x + 4) n) (hR : R v L) (kk : ∀ v' L', R v' L' → GL p l e s m below meth c D cy ad b x 1084 [] v' L') : GL p l e s m below meth c D cy ad b x 289 [] v L := by
  refine l_a1 X dL_law_289 ?_
  refine l_arg X 1 dL_law_290 dL_law_291 dL_law_292 dL_law_293 dL_law_294 rfl h1 ?_
  refine l_arg X 2 dL_law_295 dL_law_296 dL_law_297 dL_law_298 dL_law_299 rfl h2 ?_
  refine l_call X (sb_pen hR) cf9 rfl dL_law_300 cw_RL_38 rfl (by decide) rfl (by decide) (fun a v1 L1 hq => ?_)
  refine l_a2 X dL_law_303 ?_
  refine l_arg X 1 dL_law_304 dL_law_305 dL_law_306 dL_law_307 dL_law_308 rfl h1 ?_
  refine l_arg X 2 dL_law_309 dL_law_310 dL_law_311 dL_law_312 dL_law_313 rfl h2 ?_
  refine l_call X hq cf10 rfl dL_law_314 cw_RL_42 rfl (by decide) rfl (cat_opt a) (fun a2 v2 L2 hq2 => ?_)
  obtain ⟨rfl, ⟨y, rfl⟩, hR2⟩ := hq2
  refine l_eq (y := y) (st := []) X 1084 dL_law_317 rfl ?_
  exact kk _ _ hR2
set_option maxRecDepth 20000 in
theorem case_6 (X : LX p s m meth c D cy ad b n xs) (h1 : vp_in (x + 1) n) (h2 : vp_in (x + 2) n) (h3 : vp_in (x + 3) n) (h4 : vp_in (x + 4) n) (hR : R v L) (kk : ∀ v' L', R v' L' → GL p l e s m below meth c D cy ad b x 1084 [] v' L') : GL p l e s m below meth c D cy ad b x 322 [] v L := by
  refine l_a1 X dL_law_322 ?_
  refine l_arg X 1 dL_law_323 dL_law_324 dL_law_325 dL_law_326 dL_law_327 rfl h1 ?_
  refine l_call X (sb_dot hR) cf9 rfl dL_law_328 cw_RL_43 rfl (by decide) rfl (by decide) (fun a v1 L1 hq => ?_)
  refine l_a2 X dL_law_331 ?_
  refine l_arg X 1 dL_law_332 dL_law_333 dL_law_334 dL_law_335 dL_law_336 rfl h1 ?_
  refine l_call X hq cf10 rfl dL_law_337 cw_RL_46 rfl (by decide) rfl (cat_opt a) (fun a2 v2 L2 hq2 => ?_)
  obtain ⟨rfl, ⟨y, rfl⟩, hR2⟩ := hq2
  refine l_eq (y := y) (st := []) X 1084 dL_law_340 rfl ?_
  exact kk _ _ hR2
set_option maxRecDepth 20000 in
theorem case_7 (X : LX p s m meth c D cy ad b n xs) (h1 : vp_in (x + 1) n) (h2 : vp_in (x + 2) n) (h3 : vp_in (x + 3) n) (h4 : vp_in (x + 4) n) (hR : R v L) (kk : ∀ v' L', R v' L' → GL p l e s m below meth c D cy ad b x 1084 [] v' L') : GL p l e s m below meth c D cy ad b x 345 [] v L := by
  refine l_a1 X dL_law_345 ?_
  refine l_arg X 1 dL_law_346 dL_law_347 dL_law_348 dL_law_349 dL_law_350 rfl h1 ?_
  refine l_arg X 2 dL_law_351 dL_law_352 dL_law_353 dL_law_354 dL_law_355 rfl h2 ?_
  refine l_call X (sb_thick hR) cf9 rfl dL_law_356 cw_RL_47 rfl (by decide) rfl (by decide) (fun a v1 L1 hq => ?_)
  refine l_a2 X dL_law_359 ?_
  refine l_arg X 1 dL_law_360 dL_law_361 dL_law_362 dL_law_363 dL_law_364 rfl h1 ?_
  refine l_arg X 2 dL_law_365 dL_law_366 dL_law_367 dL_law_368 dL_law_369 rfl h2 ?_
  refine l_call X hq cf10 rfl dL_law_370 cw_RL_50 rfl (by decide) rfl (cat_opt a) (fun a2 v2 L2 hq2 => ?_)
  obtain ⟨rfl, ⟨y, rfl⟩, hR2⟩ := hq2
  refine l_eq (y := y) (st := []) X 1084 dL_law_373 rfl ?_
  exact kk _ _ hR2
set_option maxRecDepth 20000 in
theorem case_8 (X : LX p s m meth c D cy ad b n xs) (h1 : vp_in (x + 1) n) (h2 : vp_in (x + 2) n) (h3 : vp_in (x + 3) n) (h4 : vp_in (x + 4) n) (hR : R v L) (kk : ∀ v' L', R v' L' → GL p l e s m below meth c D cy ad b x 1084 [] v' L') : GL p l e s m below meth c D cy ad b x 378 [] v L := by
  refine l_a1 X dL_law_378 ?_
  refine l_arg X 1 dL_law_379 dL_law_380 dL_law_381 dL_law_382 dL_law_383 rfl h1 ?_
  refine l_arg X 2 dL_law_384 dL_law_385 dL_law_386 dL_law_387 dL_law_388 rfl h2 ?_
  refine l_call X (sb_step hR) cf9 rfl dL_law_389 cw_RL_51 rfl (by decide) rfl (by decide) (fun a v1 L1 hq => ?_)
  refine l_a2 X dL_law_392 ?_
  refine l_arg X 1 dL_law_393 dL_law_394 dL_law_395 dL_law_396 dL_law_397 rfl h1 ?_
  refine l_arg X 2 dL_law_398 dL_law_399 dL_law_400 dL_law_401 dL_law_402 rfl h2 ?_
  refine l_call X hq cf10 rfl dL_law_403 cw_RL_54 rfl (by decide) rfl (cat_opt a) (fun a2 v2 L2 hq2 => ?_)
  obtain ⟨rfl, ⟨y, rfl⟩, hR2⟩ := hq2
  refine l_eq (y := y) (st := []) X 1084 dL_law_406 rfl ?_
  exact kk _ _ hR2
set_option maxRecDepth 20000 in
theorem case_9 (X : LX p s m meth c D cy ad b n xs) (h1 : vp_in (x + 1) n) (h2 : vp_in (x + 2) n) (h3 : vp_in (x + 3) n) (h4 : vp_in (x + 4) n) (hR : R v L) (kk : ∀ v' L', R v' L' → GL p l e s m below meth c D cy ad b x 1084 [] v' L') : GL p l e s m below meth c D cy ad b x 411 [] v L := by
  refine l_a1 X dL_law_411 ?_
  refine l_arg X 1 dL_law_412 dL_law_413 dL_law_414 dL_law_415 dL_law_416 rfl h1 ?_
  refine l_call X (sb_put hR) cf9 rfl dL_law_417 cw_RL_55 rfl (by decide) rfl (by decide) (fun a v1 L1 hq => ?_)
  refine l_a2 X dL_law_420 ?_
  refine l_arg X 1 dL_law_421 dL_law_422 dL_law_423 dL_law_424 dL_law_425 rfl h1 ?_
  refine l_call X hq cf10 rfl dL_law_426 cw_RL_58 rfl (by decide) rfl (cat_opt a) (fun a2 v2 L2 hq2 => ?_)
  obtain ⟨rfl, ⟨y, rfl⟩, hR2⟩ := hq2
  refine l_eq (y := y) (st := []) X 1084 dL_law_429 rfl ?_
  exact kk _ _ hR2
set_option maxRecDepth 20000 in
theorem case_10 (X : LX p s m meth c D cy ad b n xs) (h1 : vp_in (x + 1) n) (h2 : vp_in (x + 2) n) (h3 : vp_in (x + 3) n) (h4 : vp_in (x + 4) n) (hR : R v L) (kk : ∀ v' L', R v' L' → GL p l e s m below meth c D cy ad b x 1084 [] v' L') : GL p l e s m below meth c D cy ad b x 434 [] v L := by
  refine l_a1 X dL_law_434 ?_
  refine l_arg X 1 dL_law_435 dL_law_436 dL_law_437 dL_law_438 dL_law_439 rfl h1 ?_
  refine l_call X (sb_dip hR) cf9 rfl dL_law_440 cw_RL_59 rfl (by decide) rfl (by decide) (fun a v1 L1 hq => ?_)
  refine l_a2 X dL_law_443 ?_
  refine l_arg X 1 dL_law_444 dL_law_445 dL_law_446 dL_law_447 dL_law_448 rfl h1 ?_
  refine l_call X hq cf10 rfl dL_law_449 cw_RL_62 rfl (by decide) rfl (cat_opt a) (fun a2 v2 L2 hq2 => ?_)
  obtain ⟨rfl, ⟨y, rfl⟩, hR2⟩ := hq2
  refine l_eq (y := y) (st := []) X 1084 dL_law_452 rfl ?_
  exact kk _ _ hR2
set_option maxRecDepth 20000 in
theorem case_11 (X : LX p s m meth c D cy ad b n xs) (h1 : vp_in (x + 1) n) (h2 : vp_in (x + 2) n) (h3 : vp_in (x + 3) n) (h4 : vp_in (x + 4) n) (hR : R v L) (kk : ∀ v' L', R v' L' → GL p l e s m below meth c D cy ad b x 1084 [] v' L') : GL p l e s m below meth c D cy ad b x 457 [] v L := by
  refine l_a1 X dL_law_457 ?_
  refine l_arg X 1 dL_law_458 dL_law_459 dL_law_460 dL_law_461 dL_law_462 rfl h1 ?_
  refine l_call X (sb_turn hR) cf9 rfl dL_law_463 cw_RL_63 rfl (by decide) rfl (by decide) (fun a v1 L1 hq => ?_)
  refine l_a2 X dL_law_466 ?_
  refine l_arg X 1 dL_law_467 dL_law_468 dL_law_469 dL_law_470 dL_law_471 rfl h1 ?_
  refine l_call X hq cf10 rfl dL_law_472 cw_RL_66 rfl (by decide) rfl (cat_opt a) (fun a2 v2 L2 hq2 => ?_)
  obtain ⟨rfl, ⟨y, rfl⟩, hR2⟩ := hq2
  refine l_eq (y := y) (st := []) X 1084 dL_law_475 rfl ?_
  exact kk _ _ hR2
set_option maxRecDepth 20000 in
theorem case_12 (X : LX p s m meth c D cy ad b n xs) (h1 : vp_in (x + 1) n) (h2 : vp_in (x + 2) n) (h3 : vp_in (x + 3) n) (h4 : vp_in (x + 4) n) (hR : R v L) (kk : ∀ v' L', R v' L' → GL p l e s m below meth c D cy ad b x 1084 [] v' L') : GL p l e s m below meth c D cy ad b x 480 [] v L := by
  refine l_a1 X dL_law_480 ?_
  refine l_arg X 1 dL_law_481 dL_law_482 dL_law_483 dL_law_484 dL_law_485 rfl h1 ?_
  refine l_call X (sb_blot hR) cf9 rfl dL_law_486 cw_RL_67 rfl (by decide) rfl (by decide) (fun a v1 L1 hq => ?_)
  refine l_a2 X dL_law_489 ?_
  refine l_arg X 1 dL_law_490 dL_law_491 dL_law_492 dL_law_493 dL_law_494 rfl h1 ?_
  refine l_call X hq cf10 rfl dL_law_495 cw_RL_70 rfl (by decide) rfl (cat_opt a) (fun a2 v2 L2 hq2 => ?_)
  obtain ⟨rfl, ⟨y, rfl⟩, hR2⟩ := hq2
  refine l_eq (y := y) (st := []) X 1084 dL_law_498 rfl ?_
  exact kk _ _ hR2
set_option maxRecDepth 20000 in
theorem case_13 (X : LX p s m meth c D cy ad b n xs) (h1 : vp_in (x + 1) n) (h2 : vp_in (x + 2) n) (h3 : vp_in (x + 3) n) (h4 : vp_in (x + 4) n) (hR : R v L) (kk : ∀ v' L', R v' L' → GL p l e s m below meth c D cy ad b x 1084 [] v' L') : GL p l e s m below meth c D cy ad b x 503 [] v L := by
  refine l_a1 X dL_law_503 ?_
  refine l_call X (sb_undo hR) cf9 rfl dL_law_504 cw_RL_71 rfl (by decide) rfl (by decide) (fun a v1 L1 hq => ?_)
  refine l_a2 X dL_law_507 ?_
  refine l_call X hq cf10 rfl dL_law_508 cw_RL_74 rfl (by decide) rfl (cat_opt a) (fun a2 v2 L2 hq2 => ?_)
  obtain ⟨rfl, ⟨y, rfl⟩, hR2⟩ := hq2
  refine l_eq (y := y) (st := []) X 1084 dL_law_511 rfl ?_
  exact kk _ _ hR2
set_option maxRecDepth 20000 in
theorem case_14 (X : LX p s m meth c D cy ad b n xs) (h1 : vp_in (x + 1) n) (h2 : vp_in (x + 2) n) (h3 : vp_in (x + 3) n) (h4 : vp_in (x + 4) n) (hR : R v L) (kk : ∀ v' L', R v' L' → GL p l e s m below meth c D cy ad b x 1084 [] v' L') : GL p l e s m below meth c D cy ad b x 516 [] v L := by
  refine l_a1 X dL_law_516 ?_
  refine l_arg X 1 dL_law_517 dL_law_518 dL_law_519 dL_law_520 dL_law_521 rfl h1 ?_
  refine l_arg X 2 dL_law_522 dL_law_523 dL_law_524 dL_law_525 dL_law_526 rfl h2 ?_
  refine l_arg X 3 dL_law_527 dL_law_528 dL_law_529 dL_law_530 dL_law_531 rfl h3 ?_
  refine l_call X (sb_behind hR) cf9 rfl dL_law_532 cw_RL_75 rfl (by decide) rfl (by decide) (fun a v1 L1 hq => ?_)
  refine l_a2 X dL_law_535 ?_
  refine l_arg X 1 dL_law_536 dL_law_537 dL_law_538 dL_law_539 dL_law_540 rfl h1 ?_
  refine l_arg X 2 dL_law_541 dL_law_542 dL_law_543 dL_law_544 dL_law_545 rfl h2 ?_
  refine l_arg X 3 dL_law_546 dL_law_547 dL_law_548 dL_law_549 dL_law_550 rfl h3 ?_
  refine l_call X hq cf10 rfl dL_law_551 cw_RL_79 rfl (by decide) rfl (cat_opt a) (fun a2 v2 L2 hq2 => ?_)
  obtain ⟨rfl, ⟨y, rfl⟩, hR2⟩ := hq2
  refine l_eq (y := y) (st := []) X 1084 dL_law_554 rfl ?_
  exact kk _ _ hR2
set_option maxRecDepth 20000 in
theorem case_15 (X : LX p s m meth c D cy ad b n xs) (h1 : vp_in (x + 1) n) (h2 : vp_in (x + 2) n) (h3 : vp_in (x + 3) n) (h4 : vp_in (x + 4) n) (hR : R v L) (kk : ∀ v' L', R v' L' → GL p l e s m below meth c D cy ad b x 1084 [] v' L') : GL p l e s m below meth c D cy ad b x 559 [] v L := by
  refine l_a1 X dL_law_559 ?_
  refine l_arg X 1 dL_law_560 dL_law_561 dL_law_562 dL_law_563 dL_law_564 rfl h1 ?_
  refine l_arg X 2 dL_law_565 dL_law_566 dL_law_567 dL_law_568 dL_law_569 rfl h2 ?_
  refine l_arg X 3 dL_law_570 dL_law_571 dL_law_572 dL_law_573 dL_law_574 rfl h3 ?_
  refine l_call X (sb_least hR) cf9 rfl dL_law_575 cw_RL_80 rfl (by decide) rfl (by decide) (fun a v1 L1 hq => ?_)
  refine l_a2 X dL_law_578 ?_
  refine l_arg X 1 dL_law_579 dL_law_580 dL_law_581 dL_law_582 dL_law_583 rfl h1 ?_
  refine l_arg X 2 dL_law_584 dL_law_585 dL_law_586 dL_law_587 dL_law_588 rfl h2 ?_
  refine l_arg X 3 dL_law_589 dL_law_590 dL_law_591 dL_law_592 dL_law_593 rfl h3 ?_
  refine l_call X hq cf10 rfl dL_law_594 cw_RL_83 rfl (by decide) rfl (cat_opt a) (fun a2 v2 L2 hq2 => ?_)
  obtain ⟨rfl, ⟨y, rfl⟩, hR2⟩ := hq2
  refine l_eq (y := y) (st := []) X 1084 dL_law_597 rfl ?_
  exact kk _ _ hR2
set_option maxRecDepth 20000 in
theorem case_16 (X : LX p s m meth c D cy ad b n xs) (h1 : vp_in (x + 1) n) (h2 : vp_in (x + 2) n) (h3 : vp_in (x + 3) n) (h4 : vp_in (x + 4) n) (hR : R v L) (kk : ∀ v' L', R v' L' → GL p l e s m below meth c D cy ad b x 1084 [] v' L') : GL p l e s m below meth c D cy ad b x 602 [] v L := by
  refine l_a1 X dL_law_602 ?_
  refine l_arg X 1 dL_law_603 dL_law_604 dL_law_605 dL_law_606 dL_law_607 rfl h1 ?_
  refine l_arg X 2 dL_law_608 dL_law_609 dL_law_610 dL_law_611 dL_law_612 rfl h2 ?_
  refine l_arg X 3 dL_law_613 dL_law_614 dL_law_615 dL_law_616 dL_law_617 rfl h3 ?_
  refine l_call X (sb_rings hR) cf9 rfl dL_law_618 cw_RL_84 rfl (by decide) rfl (by decide) (fun a v1 L1 hq => ?_)
  refine l_a2 X dL_law_621 ?_
  refine l_arg X 1 dL_law_622 dL_law_623 dL_law_624 dL_law_625 dL_law_626 rfl h1 ?_
  refine l_arg X 2 dL_law_627 dL_law_628 dL_law_629 dL_law_630 dL_law_631 rfl h2 ?_
  refine l_arg X 3 dL_law_632 dL_law_633 dL_law_634 dL_law_635 dL_law_636 rfl h3 ?_
  refine l_call X hq cf10 rfl dL_law_637 cw_RL_87 rfl (by decide) rfl (cat_opt a) (fun a2 v2 L2 hq2 => ?_)
  obtain ⟨rfl, ⟨y, rfl⟩, hR2⟩ := hq2
  refine l_eq (y := y) (st := []) X 1084 dL_law_640 rfl ?_
  exact kk _ _ hR2
set_option maxRecDepth 20000 in
theorem case_17 (X : LX p s m meth c D cy ad b n xs) (h1 : vp_in (x + 1) n) (h2 : vp_in (x + 2) n) (h3 : vp_in (x + 3) n) (h4 : vp_in (x + 4) n) (hR : R v L) (kk : ∀ v' L', R v' L' → GL p l e s m below meth c D cy ad b x 1084 [] v' L') : GL p l e s m below meth c D cy ad b x 645 [] v L := by
  refine l_a1 X dL_law_645 ?_
  refine l_arg X 1 dL_law_646 dL_law_647 dL_law_648 dL_law_649 dL_law_650 rfl h1 ?_
  refine l_arg X 2 dL_law_651 dL_law_652 dL_law_653 dL_law_654 dL_law_655 rfl h2 ?_
  refine l_i2l X dL_law_656 ?_
  refine l_bi X 32 rfl dL_law_657 ?_
  refine l_lshl X dL_law_659 ?_
  refine l_arg X 3 dL_law_660 dL_law_661 dL_law_662 dL_law_663 dL_law_664 rfl h3 ?_
  refine l_i2l X dL_law_665 ?_
  refine l_ldc2 X dL_law_666 ?_
  refine l_land X dL_law_669 ?_
  refine l_lor X dL_law_670 ?_
  refine l_call X (sb_judge hR) cf9 rfl dL_law_671 cw_RL_88 rfl (by decide) rfl (by decide) (fun a v1 L1 hq => ?_)
  refine l_a2 X dL_law_674 ?_
  refine l_arg X 1 dL_law_675 dL_law_676 dL_law_677 dL_law_678 dL_law_679 rfl h1 ?_
  refine l_arg X 2 dL_law_680 dL_law_681 dL_law_682 dL_law_683 dL_law_684 rfl h2 ?_
  refine l_i2l X dL_law_685 ?_
  refine l_bi X 32 rfl dL_law_686 ?_
  refine l_lshl X dL_law_688 ?_
  refine l_arg X 3 dL_law_689 dL_law_690 dL_law_691 dL_law_692 dL_law_693 rfl h3 ?_
  refine l_i2l X dL_law_694 ?_
  refine l_ldc2 X dL_law_695 ?_
  refine l_land X dL_law_698 ?_
  refine l_lor X dL_law_699 ?_
  refine l_call X hq cf10 rfl dL_law_700 cw_RL_91 rfl (by decide) rfl (cat_opt a) (fun a2 v2 L2 hq2 => ?_)
  obtain ⟨rfl, ⟨y, rfl⟩, hR2⟩ := hq2
  refine l_eq (y := y) (st := []) X 1084 dL_law_703 rfl ?_
  exact kk _ _ hR2
set_option maxRecDepth 20000 in
theorem case_18 (X : LX p s m meth c D cy ad b n xs) (h1 : vp_in (x + 1) n) (h2 : vp_in (x + 2) n) (h3 : vp_in (x + 3) n) (h4 : vp_in (x + 4) n) (hR : R v L) (kk : ∀ v' L', R v' L' → GL p l e s m below meth c D cy ad b x 1084 [] v' L') : GL p l e s m below meth c D cy ad b x 708 [] v L := by
  refine l_a1 X dL_law_708 ?_
  refine l_arg X 1 dL_law_709 dL_law_710 dL_law_711 dL_law_712 dL_law_713 rfl h1 ?_
  refine l_arg X 2 dL_law_714 dL_law_715 dL_law_716 dL_law_717 dL_law_718 rfl h2 ?_
  refine l_call X (sb_see hR) cf9 rfl dL_law_719 cw_RL_92 rfl (by decide) rfl (by decide) (fun a v1 L1 hq => ?_)
  refine l_a2 X dL_law_722 ?_
  refine l_arg X 1 dL_law_723 dL_law_724 dL_law_725 dL_law_726 dL_law_727 rfl h1 ?_
  refine l_arg X 2 dL_law_728 dL_law_729 dL_law_730 dL_law_731 dL_law_732 rfl h2 ?_
  refine l_call X hq cf10 rfl dL_law_733 cw_RL_95 rfl (by decide) rfl (cat_opt a) (fun a2 v2 L2 hq2 => ?_)
  obtain ⟨rfl, ⟨y, rfl⟩, hR2⟩ := hq2
  refine l_eq (y := y) (st := []) X 1084 dL_law_736 rfl ?_
  exact kk _ _ hR2
set_option maxRecDepth 20000 in
theorem case_19 (X : LX p s m meth c D cy ad b n xs) (h1 : vp_in (x + 1) n) (h2 : vp_in (x + 2) n) (h3 : vp_in (x + 3) n) (h4 : vp_in (x + 4) n) (hR : R v L) (kk : ∀ v' L', R v' L' → GL p l e s m below meth c D cy ad b x 1084 [] v' L') : GL p l e s m below meth c D cy ad b x 741 [] v L := by
  refine l_a1 X dL_law_741 ?_
  refine l_call X (sb_unsee hR) cf9 rfl dL_law_742 cw_RL_96 rfl (by decide) rfl (by decide) (fun a v1 L1 hq => ?_)
  refine l_a2 X dL_law_745 ?_
  refine l_call X hq cf10 rfl dL_law_746 cw_RL_99 rfl (by decide) rfl (cat_opt a) (fun a2 v2 L2 hq2 => ?_)
  obtain ⟨rfl, ⟨y, rfl⟩, hR2⟩ := hq2
  refine l_eq (y := y) (st := []) X 1084 dL_law_749 rfl ?_
  exact kk _ _ hR2
set_option maxRecDepth 20000 in
theorem case_20 (X : LX p s m meth c D cy ad b n xs) (h1 : vp_in (x + 1) n) (h2 : vp_in (x + 2) n) (h3 : vp_in (x + 3) n) (h4 : vp_in (x + 4) n) (hR : R v L) (kk : ∀ v' L', R v' L' → GL p l e s m below meth c D cy ad b x 1084 [] v' L') : GL p l e s m below meth c D cy ad b x 754 [] v L := by
  refine l_a1 X dL_law_754 ?_
  refine l_arg X 1 dL_law_755 dL_law_756 dL_law_757 dL_law_758 dL_law_759 rfl h1 ?_
  refine l_call X (sb_nibs hR) cf9 rfl dL_law_760 cw_RL_100 rfl (by decide) rfl (by decide) (fun a v1 L1 hq => ?_)
  refine l_a2 X dL_law_763 ?_
  refine l_arg X 1 dL_law_764 dL_law_765 dL_law_766 dL_law_767 dL_law_768 rfl h1 ?_
  refine l_call X hq cf10 rfl dL_law_769 cw_RL_103 rfl (by decide) rfl (cat_opt a) (fun a2 v2 L2 hq2 => ?_)
  obtain ⟨rfl, ⟨y, rfl⟩, hR2⟩ := hq2
  refine l_eq (y := y) (st := []) X 1084 dL_law_772 rfl ?_
  exact kk _ _ hR2
set_option maxRecDepth 20000 in
theorem case_21 (X : LX p s m meth c D cy ad b n xs) (h1 : vp_in (x + 1) n) (h2 : vp_in (x + 2) n) (h3 : vp_in (x + 3) n) (h4 : vp_in (x + 4) n) (hR : R v L) (kk : ∀ v' L', R v' L' → GL p l e s m below meth c D cy ad b x 1084 [] v' L') : GL p l e s m below meth c D cy ad b x 777 [] v L := by
  refine l_a1 X dL_law_777 ?_
  refine l_arg X 1 dL_law_778 dL_law_779 dL_law_780 dL_law_781 dL_law_782 rfl h1 ?_
  refine l_arg X 2 dL_law_783 dL_law_784 dL_law_785 dL_law_786 dL_law_787 rfl h2 ?_
  refine l_bool X 792 795 796 dL_law_788 dL_law_791 dL_law_792 dL_law_795 rfl rfl rfl rfl ?_
  refine l_call X (sb_share hR) cf9 rfl dL_law_796 cw_RL_104 rfl (by decide) rfl (by decide) (fun a v1 L1 hq => ?_)
  refine l_a2 X dL_law_799 ?_
  refine l_arg X 1 dL_law_800 dL_law_801 dL_law_802 dL_law_803 dL_law_804 rfl h1 ?_
  refine l_arg X 2 dL_law_805 dL_law_806 dL_law_807 dL_law_808 dL_law_809 rfl h2 ?_
  refine l_bool X 814 817 818 dL_law_810 dL_law_813 dL_law_814 dL_law_817 rfl rfl rfl rfl ?_
  refine l_call X hq cf10 rfl dL_law_818 cw_RL_108 rfl (by decide) rfl (cat_opt a) (fun a2 v2 L2 hq2 => ?_)
  obtain ⟨rfl, ⟨y, rfl⟩, hR2⟩ := hq2
  refine l_eq (y := y) (st := []) X 1084 dL_law_821 rfl ?_
  exact kk _ _ hR2
set_option maxRecDepth 20000 in
theorem case_22 (X : LX p s m meth c D cy ad b n xs) (h1 : vp_in (x + 1) n) (h2 : vp_in (x + 2) n) (h3 : vp_in (x + 3) n) (h4 : vp_in (x + 4) n) (hR : R v L) (kk : ∀ v' L', R v' L' → GL p l e s m below meth c D cy ad b x 1084 [] v' L') : GL p l e s m below meth c D cy ad b x 826 [] v L := by
  refine l_a1 X dL_law_826 ?_
  refine l_arg X 1 dL_law_827 dL_law_828 dL_law_829 dL_law_830 dL_law_831 rfl h1 ?_
  refine l_arg X 2 dL_law_832 dL_law_833 dL_law_834 dL_law_835 dL_law_836 rfl h2 ?_
  refine l_arg X 3 dL_law_837 dL_law_838 dL_law_839 dL_law_840 dL_law_841 rfl h3 ?_
  refine l_call X (sb_rests hR) cf9 rfl dL_law_842 cw_RL_109 rfl (by decide) rfl (by decide) (fun a v1 L1 hq => ?_)
  refine l_a2 X dL_law_845 ?_
  refine l_arg X 1 dL_law_846 dL_law_847 dL_law_848 dL_law_849 dL_law_850 rfl h1 ?_
  refine l_arg X 2 dL_law_851 dL_law_852 dL_law_853 dL_law_854 dL_law_855 rfl h2 ?_
  refine l_arg X 3 dL_law_856 dL_law_857 dL_law_858 dL_law_859 dL_law_860 rfl h3 ?_
  refine l_call X hq cf10 rfl dL_law_861 cw_RL_112 rfl (by decide) rfl (cat_opt a) (fun a2 v2 L2 hq2 => ?_)
  obtain ⟨rfl, ⟨y, rfl⟩, hR2⟩ := hq2
  refine l_eq (y := y) (st := []) X 1084 dL_law_864 rfl ?_
  exact kk _ _ hR2
set_option maxRecDepth 20000 in
theorem case_23 (X : LX p s m meth c D cy ad b n xs) (h1 : vp_in (x + 1) n) (h2 : vp_in (x + 2) n) (h3 : vp_in (x + 3) n) (h4 : vp_in (x + 4) n) (hR : R v L) (kk : ∀ v' L', R v' L' → GL p l e s m below meth c D cy ad b x 1084 [] v' L') : GL p l e s m below meth c D cy ad b x 869 [] v L := by
  refine l_a1 X dL_law_869 ?_
  refine l_arg X 1 dL_law_870 dL_law_871 dL_law_872 dL_law_873 dL_law_874 rfl h1 ?_
  refine l_arg X 2 dL_law_875 dL_law_876 dL_law_877 dL_law_878 dL_law_879 rfl h2 ?_
  refine l_arg X 3 dL_law_880 dL_law_881 dL_law_882 dL_law_883 dL_law_884 rfl h3 ?_
  refine l_arg X 4 dL_law_885 dL_law_886 dL_law_887 dL_law_888 dL_law_889 rfl h4 ?_
  refine l_bool X 894 897 898 dL_law_890 dL_law_893 dL_law_894 dL_law_897 rfl rfl rfl rfl ?_
  refine l_call X (sb_skipped hR) cf9 rfl dL_law_898 cw_RL_113 rfl (by decide) rfl (by decide) (fun a v1 L1 hq => ?_)
  refine l_a2 X dL_law_901 ?_
  refine l_arg X 1 dL_law_902 dL_law_903 dL_law_904 dL_law_905 dL_law_906 rfl h1 ?_
  refine l_arg X 2 dL_law_907 dL_law_908 dL_law_909 dL_law_910 dL_law_911 rfl h2 ?_
  refine l_arg X 3 dL_law_912 dL_law_913 dL_law_914 dL_law_915 dL_law_916 rfl h3 ?_
  refine l_arg X 4 dL_law_917 dL_law_918 dL_law_919 dL_law_920 dL_law_921 rfl h4 ?_
  refine l_bool X 926 929 930 dL_law_922 dL_law_925 dL_law_926 dL_law_929 rfl rfl rfl rfl ?_
  refine l_call X hq cf10 rfl dL_law_930 cw_RL_117 rfl (by decide) rfl (cat_opt a) (fun a2 v2 L2 hq2 => ?_)
  obtain ⟨rfl, ⟨y, rfl⟩, hR2⟩ := hq2
  refine l_eq (y := y) (st := []) X 1084 dL_law_933 rfl ?_
  exact kk _ _ hR2
set_option maxRecDepth 20000 in
theorem case_24 (X : LX p s m meth c D cy ad b n xs) (h1 : vp_in (x + 1) n) (h2 : vp_in (x + 2) n) (h3 : vp_in (x + 3) n) (h4 : vp_in (x + 4) n) (hR : R v L) (kk : ∀ v' L', R v' L' → GL p l e s m below meth c D cy ad b x 1084 [] v' L') : GL p l e s m below meth c D cy ad b x 938 [] v L := by
  refine l_a1 X dL_law_938 ?_
  refine l_arg X 1 dL_law_939 dL_law_940 dL_law_941 dL_law_942 dL_law_943 rfl h1 ?_
  refine l_i2l X dL_law_944 ?_
  refine l_bi X 32 rfl dL_law_945 ?_
  refine l_lshl X dL_law_947 ?_
  refine l_arg X 2 dL_law_948 dL_law_949 dL_law_950 dL_law_951 dL_law_952 rfl h2 ?_
  refine l_i2l X dL_law_953 ?_
  refine l_ldc2 X dL_law_954 ?_
  refine l_land X dL_law_957 ?_
  refine l_lor X dL_law_958 ?_
  refine l_call X (sb_seed hR) cf9 rfl dL_law_959 cw_RL_118 rfl (by decide) rfl (by decide) (fun a v1 L1 hq => ?_)
  refine l_a2 X dL_law_962 ?_
  refine l_arg X 1 dL_law_963 dL_law_964 dL_law_965 dL_law_966 dL_law_967 rfl h1 ?_
  refine l_i2l X dL_law_968 ?_
  refine l_bi X 32 rfl dL_law_969 ?_
  refine l_lshl X dL_law_971 ?_
  refine l_arg X 2 dL_law_972 dL_law_973 dL_law_974 dL_law_975 dL_law_976 rfl h2 ?_
  refine l_i2l X dL_law_977 ?_
  refine l_ldc2 X dL_law_978 ?_
  refine l_land X dL_law_981 ?_
  refine l_lor X dL_law_982 ?_
  refine l_call X hq cf10 rfl dL_law_983 cw_RL_122 rfl (by decide) rfl (cat_opt a) (fun a2 v2 L2 hq2 => ?_)
  obtain ⟨rfl, ⟨y, rfl⟩, hR2⟩ := hq2
  refine l_lcmp (y := y) (z := y) (st := []) X dL_law_986 ?_
  refine l_ifeq X 1084 dL_law_987 rfl (fun _ => kk _ _ hR2) (fun q => absurd ?_ q)
  exact lg_cmp_self y
set_option maxRecDepth 20000 in
theorem case_25 (X : LX p s m meth c D cy ad b n xs) (h1 : vp_in (x + 1) n) (h2 : vp_in (x + 2) n) (h3 : vp_in (x + 3) n) (h4 : vp_in (x + 4) n) (hR : R v L) (kk : ∀ v' L', R v' L' → GL p l e s m below meth c D cy ad b x 1084 [] v' L') : GL p l e s m below meth c D cy ad b x 992 [] v L := by
  refine l_a1 X dL_law_992 ?_
  refine l_arg X 1 dL_law_993 dL_law_994 dL_law_995 dL_law_996 dL_law_997 rfl h1 ?_
  refine l_call X (sb_years hR) cf9 rfl dL_law_998 cw_RL_123 rfl (by decide) rfl (by decide) (fun a v1 L1 hq => ?_)
  refine l_a2 X dL_law_1001 ?_
  refine l_arg X 1 dL_law_1002 dL_law_1003 dL_law_1004 dL_law_1005 dL_law_1006 rfl h1 ?_
  refine l_call X hq cf10 rfl dL_law_1007 cw_RL_126 rfl (by decide) rfl (cat_opt a) (fun a2 v2 L2 hq2 => ?_)
  obtain ⟨rfl, ⟨y, rfl⟩, hR2⟩ := hq2
  refine l_eq (y := y) (st := []) X 1084 dL_law_1010 rfl ?_
  exact kk _ _ hR2
set_option maxRecDepth 20000 in
theorem case_26 (X : LX p s m meth c D cy ad b n xs) (h1 : vp_in (x + 1) n) (h2 : vp_in (x + 2) n) (h3 : vp_in (x + 3) n) (h4 : vp_in (x + 4) n) (hR : R v L) (kk : ∀ v' L', R v' L' → GL p l e s m below meth c D cy ad b x 1084 [] v' L') : GL p l e s m below meth c D cy ad b x 1015 [] v L := by
  refine l_a1 X dL_law_1015 ?_
  refine l_arg X 1 dL_law_1016 dL_law_1017 dL_law_1018 dL_law_1019 dL_law_1020 rfl h1 ?_
  refine l_call X (sb_keep hR) cf9 rfl dL_law_1021 cw_RL_127 rfl (by decide) rfl (by decide) (fun a v1 L1 hq => ?_)
  refine l_a2 X dL_law_1024 ?_
  refine l_arg X 1 dL_law_1025 dL_law_1026 dL_law_1027 dL_law_1028 dL_law_1029 rfl h1 ?_
  refine l_call X hq cf10 rfl dL_law_1030 cw_RL_130 rfl (by decide) rfl (cat_opt a) (fun a2 v2 L2 hq2 => ?_)
  obtain ⟨rfl, ⟨y, rfl⟩, hR2⟩ := hq2
  refine l_eq (y := y) (st := []) X 1084 dL_law_1033 rfl ?_
  exact kk _ _ hR2
set_option maxRecDepth 20000 in
theorem case_27 (X : LX p s m meth c D cy ad b n xs) (h1 : vp_in (x + 1) n) (h2 : vp_in (x + 2) n) (h3 : vp_in (x + 3) n) (h4 : vp_in (x + 4) n) (hR : R v L) (kk : ∀ v' L', R v' L' → GL p l e s m below meth c D cy ad b x 1084 [] v' L') : GL p l e s m below meth c D cy ad b x 1038 [] v L := by
  refine l_a1 X dL_law_1038 ?_
  refine l_arg X 1 dL_law_1039 dL_law_1040 dL_law_1041 dL_law_1042 dL_law_1043 rfl h1 ?_
  refine l_call X (sb_again hR) cf9 rfl dL_law_1044 cw_RL_131 rfl (by decide) rfl (by decide) (fun a v1 L1 hq => ?_)
  refine l_a2 X dL_law_1047 ?_
  refine l_arg X 1 dL_law_1048 dL_law_1049 dL_law_1050 dL_law_1051 dL_law_1052 rfl h1 ?_
  refine l_call X hq cf10 rfl dL_law_1053 cw_RL_134 rfl (by decide) rfl (cat_opt a) (fun a2 v2 L2 hq2 => ?_)
  obtain ⟨rfl, ⟨y, rfl⟩, hR2⟩ := hq2
  refine l_eq (y := y) (st := []) X 1084 dL_law_1056 rfl ?_
  exact kk _ _ hR2
set_option maxRecDepth 20000 in
theorem case_28 (X : LX p s m meth c D cy ad b n xs) (h1 : vp_in (x + 1) n) (h2 : vp_in (x + 2) n) (h3 : vp_in (x + 3) n) (h4 : vp_in (x + 4) n) (hR : R v L) (kk : ∀ v' L', R v' L' → GL p l e s m below meth c D cy ad b x 1084 [] v' L') : GL p l e s m below meth c D cy ad b x 1061 [] v L := by
  refine l_a1 X dL_law_1061 ?_
  refine l_arg X 1 dL_law_1062 dL_law_1063 dL_law_1064 dL_law_1065 dL_law_1066 rfl h1 ?_
  refine l_call X (sb_count hR) cf9 rfl dL_law_1067 cw_RL_135 rfl (by decide) rfl (by decide) (fun a v1 L1 hq => ?_)
  refine l_a2 X dL_law_1070 ?_
  refine l_arg X 1 dL_law_1071 dL_law_1072 dL_law_1073 dL_law_1074 dL_law_1075 rfl h1 ?_
  refine l_call X hq cf10 rfl dL_law_1076 cw_RL_138 rfl (by decide) rfl (cat_opt a) (fun a2 v2 L2 hq2 => ?_)
  obtain ⟨rfl, ⟨y, rfl⟩, hR2⟩ := hq2
  refine l_eq (y := y) (st := []) X 1084 dL_law_1079 rfl ?_
  exact kk _ _ hR2
end Rows93
