/-! checks of contracts, 22 -/
-- X.shift61: 143 steps
set_option maxRecDepth 1000000 in
theorem kt_306 : jck [] kc_306 kl_306 ks_306 = true := jckq_t (by decide +kernel)
theorem kj_306 {ro : List (List Int32)} (hro : jro ro) : jCok ro jGG kc_306 := jck_ok hro kt_306 (fun _ h => absurd h List.not_mem_nil)
-- M.shift-2147483648: 101 steps
set_option maxRecDepth 1000000 in
theorem kt_307 : jck [] kc_307 kl_307 ks_307 = true := jckq_t (by decide +kernel)
theorem kj_307 {ro : List (List Int32)} (hro : jro ro) : jCok ro jGG kc_307 := jck_ok hro kt_307 (fun _ h => absurd h List.not_mem_nil)
-- M.shift0: 139 steps
set_option maxRecDepth 1000000 in
theorem kt_308 : jck [] kc_308 kl_308 ks_308 = true := jckq_t (by decide +kernel)
theorem kj_308 {ro : List (List Int32)} (hro : jro ro) : jCok ro jGG kc_308 := jck_ok hro kt_308 (fun _ h => absurd h List.not_mem_nil)
-- M.shift1: 171 steps
set_option maxRecDepth 1000000 in
theorem kt_309 : jck [] kc_309 kl_309 ks_309 = true := jckq_t (by decide +kernel)
theorem kj_309 {ro : List (List Int32)} (hro : jro ro) : jCok ro jGG kc_309 := jck_ok hro kt_309 (fun _ h => absurd h List.not_mem_nil)
-- M.shift2: 171 steps
set_option maxRecDepth 1000000 in
theorem kt_310 : jck [] kc_310 kl_310 ks_310 = true := jckq_t (by decide +kernel)
theorem kj_310 {ro : List (List Int32)} (hro : jro ro) : jCok ro jGG kc_310 := jck_ok hro kt_310 (fun _ h => absurd h List.not_mem_nil)
-- M.shift3: 171 steps
set_option maxRecDepth 1000000 in
theorem kt_311 : jck [] kc_311 kl_311 ks_311 = true := jckq_t (by decide +kernel)
theorem kj_311 {ro : List (List Int32)} (hro : jro ro) : jCok ro jGG kc_311 := jck_ok hro kt_311 (fun _ h => absurd h List.not_mem_nil)
-- M.shift4: 171 steps
set_option maxRecDepth 1000000 in
theorem kt_312 : jck [] kc_312 kl_312 ks_312 = true := jckq_t (by decide +kernel)
theorem kj_312 {ro : List (List Int32)} (hro : jro ro) : jCok ro jGG kc_312 := jck_ok hro kt_312 (fun _ h => absurd h List.not_mem_nil)
-- M.shift5: 171 steps
set_option maxRecDepth 1000000 in
theorem kt_313 : jck [] kc_313 kl_313 ks_313 = true := jckq_t (by decide +kernel)
theorem kj_313 {ro : List (List Int32)} (hro : jro ro) : jCok ro jGG kc_313 := jck_ok hro kt_313 (fun _ h => absurd h List.not_mem_nil)
-- M.shift6: 171 steps
set_option maxRecDepth 1000000 in
theorem kt_314 : jck [] kc_314 kl_314 ks_314 = true := jckq_t (by decide +kernel)
theorem kj_314 {ro : List (List Int32)} (hro : jro ro) : jCok ro jGG kc_314 := jck_ok hro kt_314 (fun _ h => absurd h List.not_mem_nil)
-- M.shift7: 171 steps
set_option maxRecDepth 1000000 in
theorem kt_315 : jck [] kc_315 kl_315 ks_315 = true := jckq_t (by decide +kernel)
theorem kj_315 {ro : List (List Int32)} (hro : jro ro) : jCok ro jGG kc_315 := jck_ok hro kt_315 (fun _ h => absurd h List.not_mem_nil)
-- M.shift8: 171 steps
set_option maxRecDepth 1000000 in
theorem kt_316 : jck [] kc_316 kl_316 ks_316 = true := jckq_t (by decide +kernel)
theorem kj_316 {ro : List (List Int32)} (hro : jro ro) : jCok ro jGG kc_316 := jck_ok hro kt_316 (fun _ h => absurd h List.not_mem_nil)
-- M.shift9: 171 steps
set_option maxRecDepth 1000000 in
theorem kt_317 : jck [] kc_317 kl_317 ks_317 = true := jckq_t (by decide +kernel)
theorem kj_317 {ro : List (List Int32)} (hro : jro ro) : jCok ro jGG kc_317 := jck_ok hro kt_317 (fun _ h => absurd h List.not_mem_nil)
-- M.shift10: 171 steps
set_option maxRecDepth 1000000 in
theorem kt_318 : jck [] kc_318 kl_318 ks_318 = true := jckq_t (by decide +kernel)
theorem kj_318 {ro : List (List Int32)} (hro : jro ro) : jCok ro jGG kc_318 := jck_ok hro kt_318 (fun _ h => absurd h List.not_mem_nil)
-- M.shift11: 171 steps
set_option maxRecDepth 1000000 in
theorem kt_319 : jck [] kc_319 kl_319 ks_319 = true := jckq_t (by decide +kernel)
theorem kj_319 {ro : List (List Int32)} (hro : jro ro) : jCok ro jGG kc_319 := jck_ok hro kt_319 (fun _ h => absurd h List.not_mem_nil)
-- M.shift12: 171 steps
set_option maxRecDepth 1000000 in
theorem kt_320 : jck [] kc_320 kl_320 ks_320 = true := jckq_t (by decide +kernel)
theorem kj_320 {ro : List (List Int32)} (hro : jro ro) : jCok ro jGG kc_320 := jck_ok hro kt_320 (fun _ h => absurd h List.not_mem_nil)
-- M.shift13: 171 steps
set_option maxRecDepth 1000000 in
theorem kt_321 : jck [] kc_321 kl_321 ks_321 = true := jckq_t (by decide +kernel)
theorem kj_321 {ro : List (List Int32)} (hro : jro ro) : jCok ro jGG kc_321 := jck_ok hro kt_321 (fun _ h => absurd h List.not_mem_nil)
-- M.shift14: 171 steps
set_option maxRecDepth 1000000 in
theorem kt_322 : jck [] kc_322 kl_322 ks_322 = true := jckq_t (by decide +kernel)
theorem kj_322 {ro : List (List Int32)} (hro : jro ro) : jCok ro jGG kc_322 := jck_ok hro kt_322 (fun _ h => absurd h List.not_mem_nil)
-- M.shift15: 171 steps
set_option maxRecDepth 1000000 in
theorem kt_323 : jck [] kc_323 kl_323 ks_323 = true := jckq_t (by decide +kernel)
theorem kj_323 {ro : List (List Int32)} (hro : jro ro) : jCok ro jGG kc_323 := jck_ok hro kt_323 (fun _ h => absurd h List.not_mem_nil)
-- M.shift16: 171 steps
set_option maxRecDepth 1000000 in
theorem kt_324 : jck [] kc_324 kl_324 ks_324 = true := jckq_t (by decide +kernel)
theorem kj_324 {ro : List (List Int32)} (hro : jro ro) : jCok ro jGG kc_324 := jck_ok hro kt_324 (fun _ h => absurd h List.not_mem_nil)
-- M.shift17: 171 steps
set_option maxRecDepth 1000000 in
theorem kt_325 : jck [] kc_325 kl_325 ks_325 = true := jckq_t (by decide +kernel)
theorem kj_325 {ro : List (List Int32)} (hro : jro ro) : jCok ro jGG kc_325 := jck_ok hro kt_325 (fun _ h => absurd h List.not_mem_nil)
-- M.shift18: 171 steps
set_option maxRecDepth 1000000 in
theorem kt_326 : jck [] kc_326 kl_326 ks_326 = true := jckq_t (by decide +kernel)
theorem kj_326 {ro : List (List Int32)} (hro : jro ro) : jCok ro jGG kc_326 := jck_ok hro kt_326 (fun _ h => absurd h List.not_mem_nil)
-- M.shift19: 171 steps
set_option maxRecDepth 1000000 in
theorem kt_327 : jck [] kc_327 kl_327 ks_327 = true := jckq_t (by decide +kernel)
theorem kj_327 {ro : List (List Int32)} (hro : jro ro) : jCok ro jGG kc_327 := jck_ok hro kt_327 (fun _ h => absurd h List.not_mem_nil)
-- M.shift20: 171 steps
set_option maxRecDepth 1000000 in
theorem kt_328 : jck [] kc_328 kl_328 ks_328 = true := jckq_t (by decide +kernel)
theorem kj_328 {ro : List (List Int32)} (hro : jro ro) : jCok ro jGG kc_328 := jck_ok hro kt_328 (fun _ h => absurd h List.not_mem_nil)
-- M.shift21: 171 steps
set_option maxRecDepth 1000000 in
theorem kt_329 : jck [] kc_329 kl_329 ks_329 = true := jckq_t (by decide +kernel)
theorem kj_329 {ro : List (List Int32)} (hro : jro ro) : jCok ro jGG kc_329 := jck_ok hro kt_329 (fun _ h => absurd h List.not_mem_nil)
-- M.shift22: 171 steps
set_option maxRecDepth 1000000 in
theorem kt_330 : jck [] kc_330 kl_330 ks_330 = true := jckq_t (by decide +kernel)
theorem kj_330 {ro : List (List Int32)} (hro : jro ro) : jCok ro jGG kc_330 := jck_ok hro kt_330 (fun _ h => absurd h List.not_mem_nil)
