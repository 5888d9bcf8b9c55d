/-! checks of contracts, 10 -/
-- X.shift34: 197 steps
set_option maxRecDepth 1000000 in
theorem kt_279 : jck [] kc_279 kl_279 ks_279 = true := jckq_t (by decide +kernel)
theorem kj_279 {ro : List (List Int32)} (hro : jro ro) : jCok ro jGG kc_279 := jck_ok hro kt_279 (fun _ h => absurd h List.not_mem_nil)
-- X.shift35: 197 steps
set_option maxRecDepth 1000000 in
theorem kt_280 : jck [] kc_280 kl_280 ks_280 = true := jckq_t (by decide +kernel)
theorem kj_280 {ro : List (List Int32)} (hro : jro ro) : jCok ro jGG kc_280 := jck_ok hro kt_280 (fun _ h => absurd h List.not_mem_nil)
-- X.shift36: 197 steps
set_option maxRecDepth 1000000 in
theorem kt_281 : jck [] kc_281 kl_281 ks_281 = true := jckq_t (by decide +kernel)
theorem kj_281 {ro : List (List Int32)} (hro : jro ro) : jCok ro jGG kc_281 := jck_ok hro kt_281 (fun _ h => absurd h List.not_mem_nil)
-- X.shift37: 197 steps
set_option maxRecDepth 1000000 in
theorem kt_282 : jck [] kc_282 kl_282 ks_282 = true := jckq_t (by decide +kernel)
theorem kj_282 {ro : List (List Int32)} (hro : jro ro) : jCok ro jGG kc_282 := jck_ok hro kt_282 (fun _ h => absurd h List.not_mem_nil)
-- X.shift38: 197 steps
set_option maxRecDepth 1000000 in
theorem kt_283 : jck [] kc_283 kl_283 ks_283 = true := jckq_t (by decide +kernel)
theorem kj_283 {ro : List (List Int32)} (hro : jro ro) : jCok ro jGG kc_283 := jck_ok hro kt_283 (fun _ h => absurd h List.not_mem_nil)
-- X.shift39: 197 steps
set_option maxRecDepth 1000000 in
theorem kt_284 : jck [] kc_284 kl_284 ks_284 = true := jckq_t (by decide +kernel)
theorem kj_284 {ro : List (List Int32)} (hro : jro ro) : jCok ro jGG kc_284 := jck_ok hro kt_284 (fun _ h => absurd h List.not_mem_nil)
-- X.shift40: 197 steps
set_option maxRecDepth 1000000 in
theorem kt_285 : jck [] kc_285 kl_285 ks_285 = true := jckq_t (by decide +kernel)
theorem kj_285 {ro : List (List Int32)} (hro : jro ro) : jCok ro jGG kc_285 := jck_ok hro kt_285 (fun _ h => absurd h List.not_mem_nil)
-- X.shift41: 197 steps
set_option maxRecDepth 1000000 in
theorem kt_286 : jck [] kc_286 kl_286 ks_286 = true := jckq_t (by decide +kernel)
theorem kj_286 {ro : List (List Int32)} (hro : jro ro) : jCok ro jGG kc_286 := jck_ok hro kt_286 (fun _ h => absurd h List.not_mem_nil)
-- X.shift42: 197 steps
set_option maxRecDepth 1000000 in
theorem kt_287 : jck [] kc_287 kl_287 ks_287 = true := jckq_t (by decide +kernel)
theorem kj_287 {ro : List (List Int32)} (hro : jro ro) : jCok ro jGG kc_287 := jck_ok hro kt_287 (fun _ h => absurd h List.not_mem_nil)
-- X.shift43: 197 steps
set_option maxRecDepth 1000000 in
theorem kt_288 : jck [] kc_288 kl_288 ks_288 = true := jckq_t (by decide +kernel)
theorem kj_288 {ro : List (List Int32)} (hro : jro ro) : jCok ro jGG kc_288 := jck_ok hro kt_288 (fun _ h => absurd h List.not_mem_nil)
-- X.shift44: 197 steps
set_option maxRecDepth 1000000 in
theorem kt_289 : jck [] kc_289 kl_289 ks_289 = true := jckq_t (by decide +kernel)
theorem kj_289 {ro : List (List Int32)} (hro : jro ro) : jCok ro jGG kc_289 := jck_ok hro kt_289 (fun _ h => absurd h List.not_mem_nil)
-- X.shift45: 197 steps
set_option maxRecDepth 1000000 in
theorem kt_290 : jck [] kc_290 kl_290 ks_290 = true := jckq_t (by decide +kernel)
theorem kj_290 {ro : List (List Int32)} (hro : jro ro) : jCok ro jGG kc_290 := jck_ok hro kt_290 (fun _ h => absurd h List.not_mem_nil)
-- X.shift46: 197 steps
set_option maxRecDepth 1000000 in
theorem kt_291 : jck [] kc_291 kl_291 ks_291 = true := jckq_t (by decide +kernel)
theorem kj_291 {ro : List (List Int32)} (hro : jro ro) : jCok ro jGG kc_291 := jck_ok hro kt_291 (fun _ h => absurd h List.not_mem_nil)
-- X.shift47: 197 steps
set_option maxRecDepth 1000000 in
theorem kt_292 : jck [] kc_292 kl_292 ks_292 = true := jckq_t (by decide +kernel)
theorem kj_292 {ro : List (List Int32)} (hro : jro ro) : jCok ro jGG kc_292 := jck_ok hro kt_292 (fun _ h => absurd h List.not_mem_nil)
-- X.shift48: 197 steps
set_option maxRecDepth 1000000 in
theorem kt_293 : jck [] kc_293 kl_293 ks_293 = true := jckq_t (by decide +kernel)
theorem kj_293 {ro : List (List Int32)} (hro : jro ro) : jCok ro jGG kc_293 := jck_ok hro kt_293 (fun _ h => absurd h List.not_mem_nil)
-- X.shift49: 197 steps
set_option maxRecDepth 1000000 in
theorem kt_294 : jck [] kc_294 kl_294 ks_294 = true := jckq_t (by decide +kernel)
theorem kj_294 {ro : List (List Int32)} (hro : jro ro) : jCok ro jGG kc_294 := jck_ok hro kt_294 (fun _ h => absurd h List.not_mem_nil)
-- X.shift50: 197 steps
set_option maxRecDepth 1000000 in
theorem kt_295 : jck [] kc_295 kl_295 ks_295 = true := jckq_t (by decide +kernel)
theorem kj_295 {ro : List (List Int32)} (hro : jro ro) : jCok ro jGG kc_295 := jck_ok hro kt_295 (fun _ h => absurd h List.not_mem_nil)
-- X.shift51: 197 steps
set_option maxRecDepth 1000000 in
theorem kt_296 : jck [] kc_296 kl_296 ks_296 = true := jckq_t (by decide +kernel)
theorem kj_296 {ro : List (List Int32)} (hro : jro ro) : jCok ro jGG kc_296 := jck_ok hro kt_296 (fun _ h => absurd h List.not_mem_nil)
-- X.shift52: 197 steps
set_option maxRecDepth 1000000 in
theorem kt_297 : jck [] kc_297 kl_297 ks_297 = true := jckq_t (by decide +kernel)
theorem kj_297 {ro : List (List Int32)} (hro : jro ro) : jCok ro jGG kc_297 := jck_ok hro kt_297 (fun _ h => absurd h List.not_mem_nil)
-- X.shift53: 197 steps
set_option maxRecDepth 1000000 in
theorem kt_298 : jck [] kc_298 kl_298 ks_298 = true := jckq_t (by decide +kernel)
theorem kj_298 {ro : List (List Int32)} (hro : jro ro) : jCok ro jGG kc_298 := jck_ok hro kt_298 (fun _ h => absurd h List.not_mem_nil)
-- X.shift54: 197 steps
set_option maxRecDepth 1000000 in
theorem kt_299 : jck [] kc_299 kl_299 ks_299 = true := jckq_t (by decide +kernel)
theorem kj_299 {ro : List (List Int32)} (hro : jro ro) : jCok ro jGG kc_299 := jck_ok hro kt_299 (fun _ h => absurd h List.not_mem_nil)
-- X.shift55: 197 steps
set_option maxRecDepth 1000000 in
theorem kt_300 : jck [] kc_300 kl_300 ks_300 = true := jckq_t (by decide +kernel)
theorem kj_300 {ro : List (List Int32)} (hro : jro ro) : jCok ro jGG kc_300 := jck_ok hro kt_300 (fun _ h => absurd h List.not_mem_nil)
-- X.shift56: 197 steps
set_option maxRecDepth 1000000 in
theorem kt_301 : jck [] kc_301 kl_301 ks_301 = true := jckq_t (by decide +kernel)
theorem kj_301 {ro : List (List Int32)} (hro : jro ro) : jCok ro jGG kc_301 := jck_ok hro kt_301 (fun _ h => absurd h List.not_mem_nil)
-- X.shift57: 197 steps
set_option maxRecDepth 1000000 in
theorem kt_302 : jck [] kc_302 kl_302 ks_302 = true := jckq_t (by decide +kernel)
theorem kj_302 {ro : List (List Int32)} (hro : jro ro) : jCok ro jGG kc_302 := jck_ok hro kt_302 (fun _ h => absurd h List.not_mem_nil)
-- X.shift58: 197 steps
set_option maxRecDepth 1000000 in
theorem kt_303 : jck [] kc_303 kl_303 ks_303 = true := jckq_t (by decide +kernel)
theorem kj_303 {ro : List (List Int32)} (hro : jro ro) : jCok ro jGG kc_303 := jck_ok hro kt_303 (fun _ h => absurd h List.not_mem_nil)
-- X.shift59: 197 steps
set_option maxRecDepth 1000000 in
theorem kt_304 : jck [] kc_304 kl_304 ks_304 = true := jckq_t (by decide +kernel)
theorem kj_304 {ro : List (List Int32)} (hro : jro ro) : jCok ro jGG kc_304 := jck_ok hro kt_304 (fun _ h => absurd h List.not_mem_nil)
-- X.shift60: 197 steps
set_option maxRecDepth 1000000 in
theorem kt_305 : jck [] kc_305 kl_305 ks_305 = true := jckq_t (by decide +kernel)
theorem kj_305 {ro : List (List Int32)} (hro : jro ro) : jCok ro jGG kc_305 := jck_ok hro kt_305 (fun _ h => absurd h List.not_mem_nil)
-- X.shift61: 143 steps
set_option maxRecDepth 1000000 in
theorem kt_306 : jck [] kc_306 kl_306 ks_306 = true := jckq_t (by decide +kernel)
theorem kj_306 {ro : List (List Int32)} (hro : jro ro) : jCok ro jGG kc_306 := jck_ok hro kt_306 (fun _ h => absurd h List.not_mem_nil)
-- M.shift-2147483648: 101 steps
set_option maxRecDepth 1000000 in
theorem kt_307 : jck [] kc_307 kl_307 ks_307 = true := jckq_t (by decide +kernel)
theorem kj_307 {ro : List (List Int32)} (hro : jro ro) : jCok ro jGG kc_307 := jck_ok hro kt_307 (fun _ h => absurd h List.not_mem_nil)
-- M.shift0: 139 steps
set_option maxRecDepth 1000000 in
theorem kt_308 : jck [] kc_308 kl_308 ks_308 = true := jckq_t (by decide +kernel)
theorem kj_308 {ro : List (List Int32)} (hro : jro ro) : jCok ro jGG kc_308 := jck_ok hro kt_308 (fun _ h => absurd h List.not_mem_nil)
-- M.shift1: 171 steps
set_option maxRecDepth 1000000 in
theorem kt_309 : jck [] kc_309 kl_309 ks_309 = true := jckq_t (by decide +kernel)
theorem kj_309 {ro : List (List Int32)} (hro : jro ro) : jCok ro jGG kc_309 := jck_ok hro kt_309 (fun _ h => absurd h List.not_mem_nil)
-- M.shift2: 171 steps
set_option maxRecDepth 1000000 in
theorem kt_310 : jck [] kc_310 kl_310 ks_310 = true := jckq_t (by decide +kernel)
theorem kj_310 {ro : List (List Int32)} (hro : jro ro) : jCok ro jGG kc_310 := jck_ok hro kt_310 (fun _ h => absurd h List.not_mem_nil)
-- M.shift3: 171 steps
set_option maxRecDepth 1000000 in
theorem kt_311 : jck [] kc_311 kl_311 ks_311 = true := jckq_t (by decide +kernel)
theorem kj_311 {ro : List (List Int32)} (hro : jro ro) : jCok ro jGG kc_311 := jck_ok hro kt_311 (fun _ h => absurd h List.not_mem_nil)
-- M.shift4: 171 steps
set_option maxRecDepth 1000000 in
theorem kt_312 : jck [] kc_312 kl_312 ks_312 = true := jckq_t (by decide +kernel)
theorem kj_312 {ro : List (List Int32)} (hro : jro ro) : jCok ro jGG kc_312 := jck_ok hro kt_312 (fun _ h => absurd h List.not_mem_nil)
-- M.shift5: 171 steps
set_option maxRecDepth 1000000 in
theorem kt_313 : jck [] kc_313 kl_313 ks_313 = true := jckq_t (by decide +kernel)
theorem kj_313 {ro : List (List Int32)} (hro : jro ro) : jCok ro jGG kc_313 := jck_ok hro kt_313 (fun _ h => absurd h List.not_mem_nil)
-- M.shift6: 171 steps
set_option maxRecDepth 1000000 in
theorem kt_314 : jck [] kc_314 kl_314 ks_314 = true := jckq_t (by decide +kernel)
theorem kj_314 {ro : List (List Int32)} (hro : jro ro) : jCok ro jGG kc_314 := jck_ok hro kt_314 (fun _ h => absurd h List.not_mem_nil)
-- M.shift7: 171 steps
set_option maxRecDepth 1000000 in
theorem kt_315 : jck [] kc_315 kl_315 ks_315 = true := jckq_t (by decide +kernel)
theorem kj_315 {ro : List (List Int32)} (hro : jro ro) : jCok ro jGG kc_315 := jck_ok hro kt_315 (fun _ h => absurd h List.not_mem_nil)
-- M.shift8: 171 steps
set_option maxRecDepth 1000000 in
theorem kt_316 : jck [] kc_316 kl_316 ks_316 = true := jckq_t (by decide +kernel)
theorem kj_316 {ro : List (List Int32)} (hro : jro ro) : jCok ro jGG kc_316 := jck_ok hro kt_316 (fun _ h => absurd h List.not_mem_nil)
-- M.shift9: 171 steps
set_option maxRecDepth 1000000 in
theorem kt_317 : jck [] kc_317 kl_317 ks_317 = true := jckq_t (by decide +kernel)
theorem kj_317 {ro : List (List Int32)} (hro : jro ro) : jCok ro jGG kc_317 := jck_ok hro kt_317 (fun _ h => absurd h List.not_mem_nil)
-- M.shift10: 171 steps
set_option maxRecDepth 1000000 in
theorem kt_318 : jck [] kc_318 kl_318 ks_318 = true := jckq_t (by decide +kernel)
theorem kj_318 {ro : List (List Int32)} (hro : jro ro) : jCok ro jGG kc_318 := jck_ok hro kt_318 (fun _ h => absurd h List.not_mem_nil)
-- M.shift11: 171 steps
set_option maxRecDepth 1000000 in
theorem kt_319 : jck [] kc_319 kl_319 ks_319 = true := jckq_t (by decide +kernel)
theorem kj_319 {ro : List (List Int32)} (hro : jro ro) : jCok ro jGG kc_319 := jck_ok hro kt_319 (fun _ h => absurd h List.not_mem_nil)
-- M.shift12: 171 steps
set_option maxRecDepth 1000000 in
theorem kt_320 : jck [] kc_320 kl_320 ks_320 = true := jckq_t (by decide +kernel)
theorem kj_320 {ro : List (List Int32)} (hro : jro ro) : jCok ro jGG kc_320 := jck_ok hro kt_320 (fun _ h => absurd h List.not_mem_nil)
-- M.shift13: 171 steps
set_option maxRecDepth 1000000 in
theorem kt_321 : jck [] kc_321 kl_321 ks_321 = true := jckq_t (by decide +kernel)
theorem kj_321 {ro : List (List Int32)} (hro : jro ro) : jCok ro jGG kc_321 := jck_ok hro kt_321 (fun _ h => absurd h List.not_mem_nil)
-- M.shift14: 171 steps
set_option maxRecDepth 1000000 in
theorem kt_322 : jck [] kc_322 kl_322 ks_322 = true := jckq_t (by decide +kernel)
theorem kj_322 {ro : List (List Int32)} (hro : jro ro) : jCok ro jGG kc_322 := jck_ok hro kt_322 (fun _ h => absurd h List.not_mem_nil)
-- M.shift15: 171 steps
set_option maxRecDepth 1000000 in
theorem kt_323 : jck [] kc_323 kl_323 ks_323 = true := jckq_t (by decide +kernel)
theorem kj_323 {ro : List (List Int32)} (hro : jro ro) : jCok ro jGG kc_323 := jck_ok hro kt_323 (fun _ h => absurd h List.not_mem_nil)
-- M.shift16: 171 steps
set_option maxRecDepth 1000000 in
theorem kt_324 : jck [] kc_324 kl_324 ks_324 = true := jckq_t (by decide +kernel)
theorem kj_324 {ro : List (List Int32)} (hro : jro ro) : jCok ro jGG kc_324 := jck_ok hro kt_324 (fun _ h => absurd h List.not_mem_nil)
-- M.shift17: 171 steps
set_option maxRecDepth 1000000 in
theorem kt_325 : jck [] kc_325 kl_325 ks_325 = true := jckq_t (by decide +kernel)
theorem kj_325 {ro : List (List Int32)} (hro : jro ro) : jCok ro jGG kc_325 := jck_ok hro kt_325 (fun _ h => absurd h List.not_mem_nil)
-- M.shift18: 171 steps
set_option maxRecDepth 1000000 in
theorem kt_326 : jck [] kc_326 kl_326 ks_326 = true := jckq_t (by decide +kernel)
theorem kj_326 {ro : List (List Int32)} (hro : jro ro) : jCok ro jGG kc_326 := jck_ok hro kt_326 (fun _ h => absurd h List.not_mem_nil)
-- M.shift19: 171 steps
set_option maxRecDepth 1000000 in
theorem kt_327 : jck [] kc_327 kl_327 ks_327 = true := jckq_t (by decide +kernel)
theorem kj_327 {ro : List (List Int32)} (hro : jro ro) : jCok ro jGG kc_327 := jck_ok hro kt_327 (fun _ h => absurd h List.not_mem_nil)
-- M.shift20: 171 steps
set_option maxRecDepth 1000000 in
theorem kt_328 : jck [] kc_328 kl_328 ks_328 = true := jckq_t (by decide +kernel)
theorem kj_328 {ro : List (List Int32)} (hro : jro ro) : jCok ro jGG kc_328 := jck_ok hro kt_328 (fun _ h => absurd h List.not_mem_nil)
