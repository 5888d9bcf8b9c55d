/-! checks of contracts, 20 -/
-- X.shift19: 197 steps
set_option maxRecDepth 1000000 in
theorem kt_264 : jck [] kc_264 kl_264 ks_264 = true := jckq_t (by decide +kernel)
theorem kj_264 {ro : List (List Int32)} (hro : jro ro) : jCok ro jGG kc_264 := jck_ok hro kt_264 (fun _ h => absurd h List.not_mem_nil)
-- X.shift20: 197 steps
set_option maxRecDepth 1000000 in
theorem kt_265 : jck [] kc_265 kl_265 ks_265 = true := jckq_t (by decide +kernel)
theorem kj_265 {ro : List (List Int32)} (hro : jro ro) : jCok ro jGG kc_265 := jck_ok hro kt_265 (fun _ h => absurd h List.not_mem_nil)
-- X.shift21: 197 steps
set_option maxRecDepth 1000000 in
theorem kt_266 : jck [] kc_266 kl_266 ks_266 = true := jckq_t (by decide +kernel)
theorem kj_266 {ro : List (List Int32)} (hro : jro ro) : jCok ro jGG kc_266 := jck_ok hro kt_266 (fun _ h => absurd h List.not_mem_nil)
-- X.shift22: 197 steps
set_option maxRecDepth 1000000 in
theorem kt_267 : jck [] kc_267 kl_267 ks_267 = true := jckq_t (by decide +kernel)
theorem kj_267 {ro : List (List Int32)} (hro : jro ro) : jCok ro jGG kc_267 := jck_ok hro kt_267 (fun _ h => absurd h List.not_mem_nil)
-- X.shift23: 197 steps
set_option maxRecDepth 1000000 in
theorem kt_268 : jck [] kc_268 kl_268 ks_268 = true := jckq_t (by decide +kernel)
theorem kj_268 {ro : List (List Int32)} (hro : jro ro) : jCok ro jGG kc_268 := jck_ok hro kt_268 (fun _ h => absurd h List.not_mem_nil)
-- X.shift24: 197 steps
set_option maxRecDepth 1000000 in
theorem kt_269 : jck [] kc_269 kl_269 ks_269 = true := jckq_t (by decide +kernel)
theorem kj_269 {ro : List (List Int32)} (hro : jro ro) : jCok ro jGG kc_269 := jck_ok hro kt_269 (fun _ h => absurd h List.not_mem_nil)
-- X.shift25: 197 steps
set_option maxRecDepth 1000000 in
theorem kt_270 : jck [] kc_270 kl_270 ks_270 = true := jckq_t (by decide +kernel)
theorem kj_270 {ro : List (List Int32)} (hro : jro ro) : jCok ro jGG kc_270 := jck_ok hro kt_270 (fun _ h => absurd h List.not_mem_nil)
-- X.shift26: 197 steps
set_option maxRecDepth 1000000 in
theorem kt_271 : jck [] kc_271 kl_271 ks_271 = true := jckq_t (by decide +kernel)
theorem kj_271 {ro : List (List Int32)} (hro : jro ro) : jCok ro jGG kc_271 := jck_ok hro kt_271 (fun _ h => absurd h List.not_mem_nil)
-- X.shift27: 197 steps
set_option maxRecDepth 1000000 in
theorem kt_272 : jck [] kc_272 kl_272 ks_272 = true := jckq_t (by decide +kernel)
theorem kj_272 {ro : List (List Int32)} (hro : jro ro) : jCok ro jGG kc_272 := jck_ok hro kt_272 (fun _ h => absurd h List.not_mem_nil)
-- X.shift28: 197 steps
set_option maxRecDepth 1000000 in
theorem kt_273 : jck [] kc_273 kl_273 ks_273 = true := jckq_t (by decide +kernel)
theorem kj_273 {ro : List (List Int32)} (hro : jro ro) : jCok ro jGG kc_273 := jck_ok hro kt_273 (fun _ h => absurd h List.not_mem_nil)
-- X.shift29: 197 steps
set_option maxRecDepth 1000000 in
theorem kt_274 : jck [] kc_274 kl_274 ks_274 = true := jckq_t (by decide +kernel)
theorem kj_274 {ro : List (List Int32)} (hro : jro ro) : jCok ro jGG kc_274 := jck_ok hro kt_274 (fun _ h => absurd h List.not_mem_nil)
-- X.shift30: 197 steps
set_option maxRecDepth 1000000 in
theorem kt_275 : jck [] kc_275 kl_275 ks_275 = true := jckq_t (by decide +kernel)
theorem kj_275 {ro : List (List Int32)} (hro : jro ro) : jCok ro jGG kc_275 := jck_ok hro kt_275 (fun _ h => absurd h List.not_mem_nil)
-- X.shift31: 197 steps
set_option maxRecDepth 1000000 in
theorem kt_276 : jck [] kc_276 kl_276 ks_276 = true := jckq_t (by decide +kernel)
theorem kj_276 {ro : List (List Int32)} (hro : jro ro) : jCok ro jGG kc_276 := jck_ok hro kt_276 (fun _ h => absurd h List.not_mem_nil)
-- X.shift32: 197 steps
set_option maxRecDepth 1000000 in
theorem kt_277 : jck [] kc_277 kl_277 ks_277 = true := jckq_t (by decide +kernel)
theorem kj_277 {ro : List (List Int32)} (hro : jro ro) : jCok ro jGG kc_277 := jck_ok hro kt_277 (fun _ h => absurd h List.not_mem_nil)
-- X.shift33: 197 steps
set_option maxRecDepth 1000000 in
theorem kt_278 : jck [] kc_278 kl_278 ks_278 = true := jckq_t (by decide +kernel)
theorem kj_278 {ro : List (List Int32)} (hro : jro ro) : jCok ro jGG kc_278 := jck_ok hro kt_278 (fun _ h => absurd h List.not_mem_nil)
-- X.shift34: 197 steps
set_option maxRecDepth 1000000 in
theorem kt_279 : jck [] kc_279 kl_279 ks_279 = true := jckq_t (by decide +kernel)
theorem kj_279 {ro : List (List Int32)} (hro : jro ro) : jCok ro jGG kc_279 := jck_ok hro kt_279 (fun _ h => absurd h List.not_mem_nil)
-- X.shift35: 197 steps
set_option maxRecDepth 1000000 in
theorem kt_280 : jck [] kc_280 kl_280 ks_280 = true := jckq_t (by decide +kernel)
theorem kj_280 {ro : List (List Int32)} (hro : jro ro) : jCok ro jGG kc_280 := jck_ok hro kt_280 (fun _ h => absurd h List.not_mem_nil)
-- X.shift36: 197 steps
set_option maxRecDepth 1000000 in
theorem kt_281 : jck [] kc_281 kl_281 ks_281 = true := jckq_t (by decide +kernel)
theorem kj_281 {ro : List (List Int32)} (hro : jro ro) : jCok ro jGG kc_281 := jck_ok hro kt_281 (fun _ h => absurd h List.not_mem_nil)
-- X.shift37: 197 steps
set_option maxRecDepth 1000000 in
theorem kt_282 : jck [] kc_282 kl_282 ks_282 = true := jckq_t (by decide +kernel)
theorem kj_282 {ro : List (List Int32)} (hro : jro ro) : jCok ro jGG kc_282 := jck_ok hro kt_282 (fun _ h => absurd h List.not_mem_nil)
-- X.shift38: 197 steps
set_option maxRecDepth 1000000 in
theorem kt_283 : jck [] kc_283 kl_283 ks_283 = true := jckq_t (by decide +kernel)
theorem kj_283 {ro : List (List Int32)} (hro : jro ro) : jCok ro jGG kc_283 := jck_ok hro kt_283 (fun _ h => absurd h List.not_mem_nil)
-- X.shift39: 197 steps
set_option maxRecDepth 1000000 in
theorem kt_284 : jck [] kc_284 kl_284 ks_284 = true := jckq_t (by decide +kernel)
theorem kj_284 {ro : List (List Int32)} (hro : jro ro) : jCok ro jGG kc_284 := jck_ok hro kt_284 (fun _ h => absurd h List.not_mem_nil)
