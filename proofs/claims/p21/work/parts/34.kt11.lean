/-! checks of contracts, 11 -/
-- M.shift21: 171 steps
set_option maxRecDepth 1000000 in
theorem kt_329 : jck [] kc_329 kl_329 ks_329 = true := jckq_t (by decide +kernel)
theorem kj_329 {ro : List (List Int32)} (hro : jro ro) : jCok ro jGG kc_329 := jck_ok hro kt_329 (fun _ h => absurd h List.not_mem_nil)
-- M.shift22: 171 steps
set_option maxRecDepth 1000000 in
theorem kt_330 : jck [] kc_330 kl_330 ks_330 = true := jckq_t (by decide +kernel)
theorem kj_330 {ro : List (List Int32)} (hro : jro ro) : jCok ro jGG kc_330 := jck_ok hro kt_330 (fun _ h => absurd h List.not_mem_nil)
-- M.shift23: 171 steps
set_option maxRecDepth 1000000 in
theorem kt_331 : jck [] kc_331 kl_331 ks_331 = true := jckq_t (by decide +kernel)
theorem kj_331 {ro : List (List Int32)} (hro : jro ro) : jCok ro jGG kc_331 := jck_ok hro kt_331 (fun _ h => absurd h List.not_mem_nil)
-- M.shift24: 171 steps
set_option maxRecDepth 1000000 in
theorem kt_332 : jck [] kc_332 kl_332 ks_332 = true := jckq_t (by decide +kernel)
theorem kj_332 {ro : List (List Int32)} (hro : jro ro) : jCok ro jGG kc_332 := jck_ok hro kt_332 (fun _ h => absurd h List.not_mem_nil)
-- M.shift25: 171 steps
set_option maxRecDepth 1000000 in
theorem kt_333 : jck [] kc_333 kl_333 ks_333 = true := jckq_t (by decide +kernel)
theorem kj_333 {ro : List (List Int32)} (hro : jro ro) : jCok ro jGG kc_333 := jck_ok hro kt_333 (fun _ h => absurd h List.not_mem_nil)
-- M.shift26: 171 steps
set_option maxRecDepth 1000000 in
theorem kt_334 : jck [] kc_334 kl_334 ks_334 = true := jckq_t (by decide +kernel)
theorem kj_334 {ro : List (List Int32)} (hro : jro ro) : jCok ro jGG kc_334 := jck_ok hro kt_334 (fun _ h => absurd h List.not_mem_nil)
-- M.shift27: 171 steps
set_option maxRecDepth 1000000 in
theorem kt_335 : jck [] kc_335 kl_335 ks_335 = true := jckq_t (by decide +kernel)
theorem kj_335 {ro : List (List Int32)} (hro : jro ro) : jCok ro jGG kc_335 := jck_ok hro kt_335 (fun _ h => absurd h List.not_mem_nil)
-- M.shift28: 171 steps
set_option maxRecDepth 1000000 in
theorem kt_336 : jck [] kc_336 kl_336 ks_336 = true := jckq_t (by decide +kernel)
theorem kj_336 {ro : List (List Int32)} (hro : jro ro) : jCok ro jGG kc_336 := jck_ok hro kt_336 (fun _ h => absurd h List.not_mem_nil)
-- M.shift29: 171 steps
set_option maxRecDepth 1000000 in
theorem kt_337 : jck [] kc_337 kl_337 ks_337 = true := jckq_t (by decide +kernel)
theorem kj_337 {ro : List (List Int32)} (hro : jro ro) : jCok ro jGG kc_337 := jck_ok hro kt_337 (fun _ h => absurd h List.not_mem_nil)
-- M.shift30: 171 steps
set_option maxRecDepth 1000000 in
theorem kt_338 : jck [] kc_338 kl_338 ks_338 = true := jckq_t (by decide +kernel)
theorem kj_338 {ro : List (List Int32)} (hro : jro ro) : jCok ro jGG kc_338 := jck_ok hro kt_338 (fun _ h => absurd h List.not_mem_nil)
-- M.shift31: 171 steps
set_option maxRecDepth 1000000 in
theorem kt_339 : jck [] kc_339 kl_339 ks_339 = true := jckq_t (by decide +kernel)
theorem kj_339 {ro : List (List Int32)} (hro : jro ro) : jCok ro jGG kc_339 := jck_ok hro kt_339 (fun _ h => absurd h List.not_mem_nil)
-- M.shift32: 171 steps
set_option maxRecDepth 1000000 in
theorem kt_340 : jck [] kc_340 kl_340 ks_340 = true := jckq_t (by decide +kernel)
theorem kj_340 {ro : List (List Int32)} (hro : jro ro) : jCok ro jGG kc_340 := jck_ok hro kt_340 (fun _ h => absurd h List.not_mem_nil)
-- M.shift33: 171 steps
set_option maxRecDepth 1000000 in
theorem kt_341 : jck [] kc_341 kl_341 ks_341 = true := jckq_t (by decide +kernel)
theorem kj_341 {ro : List (List Int32)} (hro : jro ro) : jCok ro jGG kc_341 := jck_ok hro kt_341 (fun _ h => absurd h List.not_mem_nil)
-- M.shift34: 171 steps
set_option maxRecDepth 1000000 in
theorem kt_342 : jck [] kc_342 kl_342 ks_342 = true := jckq_t (by decide +kernel)
theorem kj_342 {ro : List (List Int32)} (hro : jro ro) : jCok ro jGG kc_342 := jck_ok hro kt_342 (fun _ h => absurd h List.not_mem_nil)
-- M.shift35: 171 steps
set_option maxRecDepth 1000000 in
theorem kt_343 : jck [] kc_343 kl_343 ks_343 = true := jckq_t (by decide +kernel)
theorem kj_343 {ro : List (List Int32)} (hro : jro ro) : jCok ro jGG kc_343 := jck_ok hro kt_343 (fun _ h => absurd h List.not_mem_nil)
-- M.shift36: 171 steps
set_option maxRecDepth 1000000 in
theorem kt_344 : jck [] kc_344 kl_344 ks_344 = true := jckq_t (by decide +kernel)
theorem kj_344 {ro : List (List Int32)} (hro : jro ro) : jCok ro jGG kc_344 := jck_ok hro kt_344 (fun _ h => absurd h List.not_mem_nil)
-- M.shift37: 171 steps
set_option maxRecDepth 1000000 in
theorem kt_345 : jck [] kc_345 kl_345 ks_345 = true := jckq_t (by decide +kernel)
theorem kj_345 {ro : List (List Int32)} (hro : jro ro) : jCok ro jGG kc_345 := jck_ok hro kt_345 (fun _ h => absurd h List.not_mem_nil)
-- M.shift38: 171 steps
set_option maxRecDepth 1000000 in
theorem kt_346 : jck [] kc_346 kl_346 ks_346 = true := jckq_t (by decide +kernel)
theorem kj_346 {ro : List (List Int32)} (hro : jro ro) : jCok ro jGG kc_346 := jck_ok hro kt_346 (fun _ h => absurd h List.not_mem_nil)
-- M.shift39: 171 steps
set_option maxRecDepth 1000000 in
theorem kt_347 : jck [] kc_347 kl_347 ks_347 = true := jckq_t (by decide +kernel)
theorem kj_347 {ro : List (List Int32)} (hro : jro ro) : jCok ro jGG kc_347 := jck_ok hro kt_347 (fun _ h => absurd h List.not_mem_nil)
-- M.shift40: 171 steps
set_option maxRecDepth 1000000 in
theorem kt_348 : jck [] kc_348 kl_348 ks_348 = true := jckq_t (by decide +kernel)
theorem kj_348 {ro : List (List Int32)} (hro : jro ro) : jCok ro jGG kc_348 := jck_ok hro kt_348 (fun _ h => absurd h List.not_mem_nil)
-- M.shift41: 171 steps
set_option maxRecDepth 1000000 in
theorem kt_349 : jck [] kc_349 kl_349 ks_349 = true := jckq_t (by decide +kernel)
theorem kj_349 {ro : List (List Int32)} (hro : jro ro) : jCok ro jGG kc_349 := jck_ok hro kt_349 (fun _ h => absurd h List.not_mem_nil)
-- M.shift42: 171 steps
set_option maxRecDepth 1000000 in
theorem kt_350 : jck [] kc_350 kl_350 ks_350 = true := jckq_t (by decide +kernel)
theorem kj_350 {ro : List (List Int32)} (hro : jro ro) : jCok ro jGG kc_350 := jck_ok hro kt_350 (fun _ h => absurd h List.not_mem_nil)
-- M.shift43: 171 steps
set_option maxRecDepth 1000000 in
theorem kt_351 : jck [] kc_351 kl_351 ks_351 = true := jckq_t (by decide +kernel)
theorem kj_351 {ro : List (List Int32)} (hro : jro ro) : jCok ro jGG kc_351 := jck_ok hro kt_351 (fun _ h => absurd h List.not_mem_nil)
-- M.shift44: 171 steps
set_option maxRecDepth 1000000 in
theorem kt_352 : jck [] kc_352 kl_352 ks_352 = true := jckq_t (by decide +kernel)
theorem kj_352 {ro : List (List Int32)} (hro : jro ro) : jCok ro jGG kc_352 := jck_ok hro kt_352 (fun _ h => absurd h List.not_mem_nil)
-- M.shift45: 171 steps
set_option maxRecDepth 1000000 in
theorem kt_353 : jck [] kc_353 kl_353 ks_353 = true := jckq_t (by decide +kernel)
theorem kj_353 {ro : List (List Int32)} (hro : jro ro) : jCok ro jGG kc_353 := jck_ok hro kt_353 (fun _ h => absurd h List.not_mem_nil)
-- M.shift46: 171 steps
set_option maxRecDepth 1000000 in
theorem kt_354 : jck [] kc_354 kl_354 ks_354 = true := jckq_t (by decide +kernel)
theorem kj_354 {ro : List (List Int32)} (hro : jro ro) : jCok ro jGG kc_354 := jck_ok hro kt_354 (fun _ h => absurd h List.not_mem_nil)
-- M.shift47: 171 steps
set_option maxRecDepth 1000000 in
theorem kt_355 : jck [] kc_355 kl_355 ks_355 = true := jckq_t (by decide +kernel)
theorem kj_355 {ro : List (List Int32)} (hro : jro ro) : jCok ro jGG kc_355 := jck_ok hro kt_355 (fun _ h => absurd h List.not_mem_nil)
-- M.shift48: 171 steps
set_option maxRecDepth 1000000 in
theorem kt_356 : jck [] kc_356 kl_356 ks_356 = true := jckq_t (by decide +kernel)
theorem kj_356 {ro : List (List Int32)} (hro : jro ro) : jCok ro jGG kc_356 := jck_ok hro kt_356 (fun _ h => absurd h List.not_mem_nil)
-- M.shift49: 171 steps
set_option maxRecDepth 1000000 in
theorem kt_357 : jck [] kc_357 kl_357 ks_357 = true := jckq_t (by decide +kernel)
theorem kj_357 {ro : List (List Int32)} (hro : jro ro) : jCok ro jGG kc_357 := jck_ok hro kt_357 (fun _ h => absurd h List.not_mem_nil)
-- M.shift50: 171 steps
set_option maxRecDepth 1000000 in
theorem kt_358 : jck [] kc_358 kl_358 ks_358 = true := jckq_t (by decide +kernel)
theorem kj_358 {ro : List (List Int32)} (hro : jro ro) : jCok ro jGG kc_358 := jck_ok hro kt_358 (fun _ h => absurd h List.not_mem_nil)
-- M.shift51: 171 steps
set_option maxRecDepth 1000000 in
theorem kt_359 : jck [] kc_359 kl_359 ks_359 = true := jckq_t (by decide +kernel)
theorem kj_359 {ro : List (List Int32)} (hro : jro ro) : jCok ro jGG kc_359 := jck_ok hro kt_359 (fun _ h => absurd h List.not_mem_nil)
-- M.shift52: 171 steps
set_option maxRecDepth 1000000 in
theorem kt_360 : jck [] kc_360 kl_360 ks_360 = true := jckq_t (by decide +kernel)
theorem kj_360 {ro : List (List Int32)} (hro : jro ro) : jCok ro jGG kc_360 := jck_ok hro kt_360 (fun _ h => absurd h List.not_mem_nil)
-- M.shift53: 171 steps
set_option maxRecDepth 1000000 in
theorem kt_361 : jck [] kc_361 kl_361 ks_361 = true := jckq_t (by decide +kernel)
theorem kj_361 {ro : List (List Int32)} (hro : jro ro) : jCok ro jGG kc_361 := jck_ok hro kt_361 (fun _ h => absurd h List.not_mem_nil)
-- M.shift54: 171 steps
set_option maxRecDepth 1000000 in
theorem kt_362 : jck [] kc_362 kl_362 ks_362 = true := jckq_t (by decide +kernel)
theorem kj_362 {ro : List (List Int32)} (hro : jro ro) : jCok ro jGG kc_362 := jck_ok hro kt_362 (fun _ h => absurd h List.not_mem_nil)
-- M.shift55: 171 steps
set_option maxRecDepth 1000000 in
theorem kt_363 : jck [] kc_363 kl_363 ks_363 = true := jckq_t (by decide +kernel)
theorem kj_363 {ro : List (List Int32)} (hro : jro ro) : jCok ro jGG kc_363 := jck_ok hro kt_363 (fun _ h => absurd h List.not_mem_nil)
-- M.shift56: 171 steps
set_option maxRecDepth 1000000 in
theorem kt_364 : jck [] kc_364 kl_364 ks_364 = true := jckq_t (by decide +kernel)
theorem kj_364 {ro : List (List Int32)} (hro : jro ro) : jCok ro jGG kc_364 := jck_ok hro kt_364 (fun _ h => absurd h List.not_mem_nil)
-- M.shift57: 171 steps
set_option maxRecDepth 1000000 in
theorem kt_365 : jck [] kc_365 kl_365 ks_365 = true := jckq_t (by decide +kernel)
theorem kj_365 {ro : List (List Int32)} (hro : jro ro) : jCok ro jGG kc_365 := jck_ok hro kt_365 (fun _ h => absurd h List.not_mem_nil)
-- M.shift58: 171 steps
set_option maxRecDepth 1000000 in
theorem kt_366 : jck [] kc_366 kl_366 ks_366 = true := jckq_t (by decide +kernel)
theorem kj_366 {ro : List (List Int32)} (hro : jro ro) : jCok ro jGG kc_366 := jck_ok hro kt_366 (fun _ h => absurd h List.not_mem_nil)
-- M.shift59: 171 steps
set_option maxRecDepth 1000000 in
theorem kt_367 : jck [] kc_367 kl_367 ks_367 = true := jckq_t (by decide +kernel)
theorem kj_367 {ro : List (List Int32)} (hro : jro ro) : jCok ro jGG kc_367 := jck_ok hro kt_367 (fun _ h => absurd h List.not_mem_nil)
-- M.shift60: 171 steps
set_option maxRecDepth 1000000 in
theorem kt_368 : jck [] kc_368 kl_368 ks_368 = true := jckq_t (by decide +kernel)
theorem kj_368 {ro : List (List Int32)} (hro : jro ro) : jCok ro jGG kc_368 := jck_ok hro kt_368 (fun _ h => absurd h List.not_mem_nil)
-- M.shift61: 117 steps
set_option maxRecDepth 1000000 in
theorem kt_369 : jck [] kc_369 kl_369 ks_369 = true := jckq_t (by decide +kernel)
theorem kj_369 {ro : List (List Int32)} (hro : jro ro) : jCok ro jGG kc_369 := jck_ok hro kt_369 (fun _ h => absurd h List.not_mem_nil)
def ks_370p : List ((Nat × Nat) × Nat) := [((109, 19), 99), ((114, 0), 1), ((115, 0), 1), ((215, 22), 99)]
-- X.taken: 200 steps
set_option maxRecDepth 1000000 in
theorem kt_370 : jck [] kc_370 kl_370 ks_370p = true := jckq_t (by decide +kernel)
theorem kj_370 {ro : List (List Int32)} (hro : jro ro) : jCok ro jGG kc_370 := jck_ok hro kt_370 (fun _ h => absurd h List.not_mem_nil)
-- M.taken: 178 steps
set_option maxRecDepth 1000000 in
theorem kt_371 : jck [] kc_371 kl_371 ks_371 = true := jckq_t (by decide +kernel)
theorem kj_371 {ro : List (List Int32)} (hro : jro ro) : jCok ro jGG kc_371 := jck_ok hro kt_371 (fun _ h => absurd h List.not_mem_nil)
-- X.count: 53 steps
set_option maxRecDepth 1000000 in
theorem kt_372 : jck [] kc_372 kl_372 ks_372 = true := jckq_t (by decide +kernel)
theorem kj_372 {ro : List (List Int32)} (hro : jro ro) : jCok ro jGG kc_372 := jck_ok hro kt_372 (fun _ h => absurd h List.not_mem_nil)
-- M.count: 46 steps
set_option maxRecDepth 1000000 in
theorem kt_373 : jck [] kc_373 kl_373 ks_373 = true := jckq_t (by decide +kernel)
theorem kj_373 {ro : List (List Int32)} (hro : jro ro) : jCok ro jGG kc_373 := jck_ok hro kt_373 (fun _ h => absurd h List.not_mem_nil)
def kc_374 : jC := (163, 2, [.inl (.ref 0), .inr (0, (-2147483648), 2147483647), .inr (0, (-2147483648), (-1)), .inr (0, (-2147483648), 2147483647)], [], [(57, 3)], [(some (0, 0, 0), [])])
def kl_374 : List jA := []
def ks_374 : List ((Nat × Nat) × Nat) := [((114, 0), 1), ((115, 0), 1), ((215, 22), 99)]
-- X.act-2147483648: 39 steps
set_option maxRecDepth 1000000 in
theorem kt_374 : jck [] kc_374 kl_374 ks_374 = true := jckq_t (by decide +kernel)
theorem kj_374 {ro : List (List Int32)} (hro : jro ro) : jCok ro jGG kc_374 := jck_ok hro kt_374 (fun _ h => absurd h List.not_mem_nil)
def kc_375 : jC := (163, 6, [.inl (.ref 0), .inr (0, (-2147483648), 2147483647), .inr (0, 0, 0), .inr (0, (-2147483648), 2147483647)], [], [(57, 3), (57, 4), (59, 9999)], [(some (0, (-2147483648), 2147483647), [])])
def kl_375 : List jA := []
def ks_375 : List ((Nat × Nat) × Nat) := [((114, 0), 1), ((115, 0), 1), ((215, 22), 99)]
-- X.act0: 934 steps
set_option maxRecDepth 1000000 in
theorem kt_375 : jck [] kc_375 kl_375 ks_375 = true := jckq_t (by decide +kernel)
theorem kj_375 {ro : List (List Int32)} (hro : jro ro) : jCok ro jGG kc_375 := jck_ok hro kt_375 (fun _ h => absurd h List.not_mem_nil)
def kc_376 : jC := (163, 12, [.inl (.ref 0), .inr (0, (-2147483648), 2147483647), .inr (0, 1, 1), .inr (0, (-2147483648), 2147483647)], [], [(57, 3), (57, 4), (59, 9999)], [(some (0, (-2147483648), 2147483647), [])])
def kl_376 : List jA := []
def ks_376 : List ((Nat × Nat) × Nat) := [((114, 0), 1), ((115, 0), 1), ((215, 22), 99)]
-- X.act1: 2322 steps
set_option maxRecDepth 1000000 in
theorem kt_376 : jck [] kc_376 kl_376 ks_376 = true := jckq_t (by decide +kernel)
theorem kj_376 {ro : List (List Int32)} (hro : jro ro) : jCok ro jGG kc_376 := jck_ok hro kt_376 (fun _ h => absurd h List.not_mem_nil)
