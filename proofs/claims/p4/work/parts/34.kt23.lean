/-! checks of contracts, 23 -/
-- M.shift23: 171 steps
set_option maxRecDepth 1000000 in
theorem kt_331 : jck [] kc_331 kl_331 ks_331 = true := jckq_t (by decide +kernel)
theorem kj_331 {ro : List (List Int32)} (hro : jro ro) : jCok ro jGG kc_331 := jck_ok hro kt_331 (fun _ h => absurd h List.not_mem_nil)
-- M.shift24: 171 steps
set_option maxRecDepth 1000000 in
theorem kt_332 : jck [] kc_332 kl_332 ks_332 = true := jckq_t (by decide +kernel)
theorem kj_332 {ro : List (List Int32)} (hro : jro ro) : jCok ro jGG kc_332 := jck_ok hro kt_332 (fun _ h => absurd h List.not_mem_nil)
-- M.shift25: 171 steps
set_option maxRecDepth 1000000 in
theorem kt_333 : jck [] kc_333 kl_333 ks_333 = true := jckq_t (by decide +kernel)
theorem kj_333 {ro : List (List Int32)} (hro : jro ro) : jCok ro jGG kc_333 := jck_ok hro kt_333 (fun _ h => absurd h List.not_mem_nil)
-- M.shift26: 171 steps
set_option maxRecDepth 1000000 in
theorem kt_334 : jck [] kc_334 kl_334 ks_334 = true := jckq_t (by decide +kernel)
theorem kj_334 {ro : List (List Int32)} (hro : jro ro) : jCok ro jGG kc_334 := jck_ok hro kt_334 (fun _ h => absurd h List.not_mem_nil)
-- M.shift27: 171 steps
set_option maxRecDepth 1000000 in
theorem kt_335 : jck [] kc_335 kl_335 ks_335 = true := jckq_t (by decide +kernel)
theorem kj_335 {ro : List (List Int32)} (hro : jro ro) : jCok ro jGG kc_335 := jck_ok hro kt_335 (fun _ h => absurd h List.not_mem_nil)
-- M.shift28: 171 steps
set_option maxRecDepth 1000000 in
theorem kt_336 : jck [] kc_336 kl_336 ks_336 = true := jckq_t (by decide +kernel)
theorem kj_336 {ro : List (List Int32)} (hro : jro ro) : jCok ro jGG kc_336 := jck_ok hro kt_336 (fun _ h => absurd h List.not_mem_nil)
-- M.shift29: 171 steps
set_option maxRecDepth 1000000 in
theorem kt_337 : jck [] kc_337 kl_337 ks_337 = true := jckq_t (by decide +kernel)
theorem kj_337 {ro : List (List Int32)} (hro : jro ro) : jCok ro jGG kc_337 := jck_ok hro kt_337 (fun _ h => absurd h List.not_mem_nil)
-- M.shift30: 171 steps
set_option maxRecDepth 1000000 in
theorem kt_338 : jck [] kc_338 kl_338 ks_338 = true := jckq_t (by decide +kernel)
theorem kj_338 {ro : List (List Int32)} (hro : jro ro) : jCok ro jGG kc_338 := jck_ok hro kt_338 (fun _ h => absurd h List.not_mem_nil)
-- M.shift31: 171 steps
set_option maxRecDepth 1000000 in
theorem kt_339 : jck [] kc_339 kl_339 ks_339 = true := jckq_t (by decide +kernel)
theorem kj_339 {ro : List (List Int32)} (hro : jro ro) : jCok ro jGG kc_339 := jck_ok hro kt_339 (fun _ h => absurd h List.not_mem_nil)
-- M.shift32: 171 steps
set_option maxRecDepth 1000000 in
theorem kt_340 : jck [] kc_340 kl_340 ks_340 = true := jckq_t (by decide +kernel)
theorem kj_340 {ro : List (List Int32)} (hro : jro ro) : jCok ro jGG kc_340 := jck_ok hro kt_340 (fun _ h => absurd h List.not_mem_nil)
-- M.shift33: 171 steps
set_option maxRecDepth 1000000 in
theorem kt_341 : jck [] kc_341 kl_341 ks_341 = true := jckq_t (by decide +kernel)
theorem kj_341 {ro : List (List Int32)} (hro : jro ro) : jCok ro jGG kc_341 := jck_ok hro kt_341 (fun _ h => absurd h List.not_mem_nil)
-- M.shift34: 171 steps
set_option maxRecDepth 1000000 in
theorem kt_342 : jck [] kc_342 kl_342 ks_342 = true := jckq_t (by decide +kernel)
theorem kj_342 {ro : List (List Int32)} (hro : jro ro) : jCok ro jGG kc_342 := jck_ok hro kt_342 (fun _ h => absurd h List.not_mem_nil)
-- M.shift35: 171 steps
set_option maxRecDepth 1000000 in
theorem kt_343 : jck [] kc_343 kl_343 ks_343 = true := jckq_t (by decide +kernel)
theorem kj_343 {ro : List (List Int32)} (hro : jro ro) : jCok ro jGG kc_343 := jck_ok hro kt_343 (fun _ h => absurd h List.not_mem_nil)
-- M.shift36: 171 steps
set_option maxRecDepth 1000000 in
theorem kt_344 : jck [] kc_344 kl_344 ks_344 = true := jckq_t (by decide +kernel)
theorem kj_344 {ro : List (List Int32)} (hro : jro ro) : jCok ro jGG kc_344 := jck_ok hro kt_344 (fun _ h => absurd h List.not_mem_nil)
-- M.shift37: 171 steps
set_option maxRecDepth 1000000 in
theorem kt_345 : jck [] kc_345 kl_345 ks_345 = true := jckq_t (by decide +kernel)
theorem kj_345 {ro : List (List Int32)} (hro : jro ro) : jCok ro jGG kc_345 := jck_ok hro kt_345 (fun _ h => absurd h List.not_mem_nil)
-- M.shift38: 171 steps
set_option maxRecDepth 1000000 in
theorem kt_346 : jck [] kc_346 kl_346 ks_346 = true := jckq_t (by decide +kernel)
theorem kj_346 {ro : List (List Int32)} (hro : jro ro) : jCok ro jGG kc_346 := jck_ok hro kt_346 (fun _ h => absurd h List.not_mem_nil)
-- M.shift39: 171 steps
set_option maxRecDepth 1000000 in
theorem kt_347 : jck [] kc_347 kl_347 ks_347 = true := jckq_t (by decide +kernel)
theorem kj_347 {ro : List (List Int32)} (hro : jro ro) : jCok ro jGG kc_347 := jck_ok hro kt_347 (fun _ h => absurd h List.not_mem_nil)
-- M.shift40: 171 steps
set_option maxRecDepth 1000000 in
theorem kt_348 : jck [] kc_348 kl_348 ks_348 = true := jckq_t (by decide +kernel)
theorem kj_348 {ro : List (List Int32)} (hro : jro ro) : jCok ro jGG kc_348 := jck_ok hro kt_348 (fun _ h => absurd h List.not_mem_nil)
-- M.shift41: 171 steps
set_option maxRecDepth 1000000 in
theorem kt_349 : jck [] kc_349 kl_349 ks_349 = true := jckq_t (by decide +kernel)
theorem kj_349 {ro : List (List Int32)} (hro : jro ro) : jCok ro jGG kc_349 := jck_ok hro kt_349 (fun _ h => absurd h List.not_mem_nil)
-- M.shift42: 171 steps
set_option maxRecDepth 1000000 in
theorem kt_350 : jck [] kc_350 kl_350 ks_350 = true := jckq_t (by decide +kernel)
theorem kj_350 {ro : List (List Int32)} (hro : jro ro) : jCok ro jGG kc_350 := jck_ok hro kt_350 (fun _ h => absurd h List.not_mem_nil)
-- M.shift43: 171 steps
set_option maxRecDepth 1000000 in
theorem kt_351 : jck [] kc_351 kl_351 ks_351 = true := jckq_t (by decide +kernel)
theorem kj_351 {ro : List (List Int32)} (hro : jro ro) : jCok ro jGG kc_351 := jck_ok hro kt_351 (fun _ h => absurd h List.not_mem_nil)
-- M.shift44: 171 steps
set_option maxRecDepth 1000000 in
theorem kt_352 : jck [] kc_352 kl_352 ks_352 = true := jckq_t (by decide +kernel)
theorem kj_352 {ro : List (List Int32)} (hro : jro ro) : jCok ro jGG kc_352 := jck_ok hro kt_352 (fun _ h => absurd h List.not_mem_nil)
-- M.shift45: 171 steps
set_option maxRecDepth 1000000 in
theorem kt_353 : jck [] kc_353 kl_353 ks_353 = true := jckq_t (by decide +kernel)
theorem kj_353 {ro : List (List Int32)} (hro : jro ro) : jCok ro jGG kc_353 := jck_ok hro kt_353 (fun _ h => absurd h List.not_mem_nil)
-- M.shift46: 171 steps
set_option maxRecDepth 1000000 in
theorem kt_354 : jck [] kc_354 kl_354 ks_354 = true := jckq_t (by decide +kernel)
theorem kj_354 {ro : List (List Int32)} (hro : jro ro) : jCok ro jGG kc_354 := jck_ok hro kt_354 (fun _ h => absurd h List.not_mem_nil)
