/-! checks of contracts, 21 -/
-- X.shift40: 197 steps
set_option maxRecDepth 1000000 in
theorem kt_285 : jck [] kc_285 kl_285 ks_285 = true := jckq_t (by decide +kernel)
theorem kj_285 {ro : List (List Int32)} (hro : jro ro) : jCok ro jGG kc_285 := jck_ok hro kt_285 (fun _ h => absurd h List.not_mem_nil)
-- X.shift41: 197 steps
set_option maxRecDepth 1000000 in
theorem kt_286 : jck [] kc_286 kl_286 ks_286 = true := jckq_t (by decide +kernel)
theorem kj_286 {ro : List (List Int32)} (hro : jro ro) : jCok ro jGG kc_286 := jck_ok hro kt_286 (fun _ h => absurd h List.not_mem_nil)
-- X.shift42: 197 steps
set_option maxRecDepth 1000000 in
theorem kt_287 : jck [] kc_287 kl_287 ks_287 = true := jckq_t (by decide +kernel)
theorem kj_287 {ro : List (List Int32)} (hro : jro ro) : jCok ro jGG kc_287 := jck_ok hro kt_287 (fun _ h => absurd h List.not_mem_nil)
-- X.shift43: 197 steps
set_option maxRecDepth 1000000 in
theorem kt_288 : jck [] kc_288 kl_288 ks_288 = true := jckq_t (by decide +kernel)
theorem kj_288 {ro : List (List Int32)} (hro : jro ro) : jCok ro jGG kc_288 := jck_ok hro kt_288 (fun _ h => absurd h List.not_mem_nil)
-- X.shift44: 197 steps
set_option maxRecDepth 1000000 in
theorem kt_289 : jck [] kc_289 kl_289 ks_289 = true := jckq_t (by decide +kernel)
theorem kj_289 {ro : List (List Int32)} (hro : jro ro) : jCok ro jGG kc_289 := jck_ok hro kt_289 (fun _ h => absurd h List.not_mem_nil)
-- X.shift45: 197 steps
set_option maxRecDepth 1000000 in
theorem kt_290 : jck [] kc_290 kl_290 ks_290 = true := jckq_t (by decide +kernel)
theorem kj_290 {ro : List (List Int32)} (hro : jro ro) : jCok ro jGG kc_290 := jck_ok hro kt_290 (fun _ h => absurd h List.not_mem_nil)
-- X.shift46: 197 steps
set_option maxRecDepth 1000000 in
theorem kt_291 : jck [] kc_291 kl_291 ks_291 = true := jckq_t (by decide +kernel)
theorem kj_291 {ro : List (List Int32)} (hro : jro ro) : jCok ro jGG kc_291 := jck_ok hro kt_291 (fun _ h => absurd h List.not_mem_nil)
-- X.shift47: 197 steps
set_option maxRecDepth 1000000 in
theorem kt_292 : jck [] kc_292 kl_292 ks_292 = true := jckq_t (by decide +kernel)
theorem kj_292 {ro : List (List Int32)} (hro : jro ro) : jCok ro jGG kc_292 := jck_ok hro kt_292 (fun _ h => absurd h List.not_mem_nil)
-- X.shift48: 197 steps
set_option maxRecDepth 1000000 in
theorem kt_293 : jck [] kc_293 kl_293 ks_293 = true := jckq_t (by decide +kernel)
theorem kj_293 {ro : List (List Int32)} (hro : jro ro) : jCok ro jGG kc_293 := jck_ok hro kt_293 (fun _ h => absurd h List.not_mem_nil)
-- X.shift49: 197 steps
set_option maxRecDepth 1000000 in
theorem kt_294 : jck [] kc_294 kl_294 ks_294 = true := jckq_t (by decide +kernel)
theorem kj_294 {ro : List (List Int32)} (hro : jro ro) : jCok ro jGG kc_294 := jck_ok hro kt_294 (fun _ h => absurd h List.not_mem_nil)
-- X.shift50: 197 steps
set_option maxRecDepth 1000000 in
theorem kt_295 : jck [] kc_295 kl_295 ks_295 = true := jckq_t (by decide +kernel)
theorem kj_295 {ro : List (List Int32)} (hro : jro ro) : jCok ro jGG kc_295 := jck_ok hro kt_295 (fun _ h => absurd h List.not_mem_nil)
-- X.shift51: 197 steps
set_option maxRecDepth 1000000 in
theorem kt_296 : jck [] kc_296 kl_296 ks_296 = true := jckq_t (by decide +kernel)
theorem kj_296 {ro : List (List Int32)} (hro : jro ro) : jCok ro jGG kc_296 := jck_ok hro kt_296 (fun _ h => absurd h List.not_mem_nil)
-- X.shift52: 197 steps
set_option maxRecDepth 1000000 in
theorem kt_297 : jck [] kc_297 kl_297 ks_297 = true := jckq_t (by decide +kernel)
theorem kj_297 {ro : List (List Int32)} (hro : jro ro) : jCok ro jGG kc_297 := jck_ok hro kt_297 (fun _ h => absurd h List.not_mem_nil)
-- X.shift53: 197 steps
set_option maxRecDepth 1000000 in
theorem kt_298 : jck [] kc_298 kl_298 ks_298 = true := jckq_t (by decide +kernel)
theorem kj_298 {ro : List (List Int32)} (hro : jro ro) : jCok ro jGG kc_298 := jck_ok hro kt_298 (fun _ h => absurd h List.not_mem_nil)
-- X.shift54: 197 steps
set_option maxRecDepth 1000000 in
theorem kt_299 : jck [] kc_299 kl_299 ks_299 = true := jckq_t (by decide +kernel)
theorem kj_299 {ro : List (List Int32)} (hro : jro ro) : jCok ro jGG kc_299 := jck_ok hro kt_299 (fun _ h => absurd h List.not_mem_nil)
-- X.shift55: 197 steps
set_option maxRecDepth 1000000 in
theorem kt_300 : jck [] kc_300 kl_300 ks_300 = true := jckq_t (by decide +kernel)
theorem kj_300 {ro : List (List Int32)} (hro : jro ro) : jCok ro jGG kc_300 := jck_ok hro kt_300 (fun _ h => absurd h List.not_mem_nil)
-- X.shift56: 197 steps
set_option maxRecDepth 1000000 in
theorem kt_301 : jck [] kc_301 kl_301 ks_301 = true := jckq_t (by decide +kernel)
theorem kj_301 {ro : List (List Int32)} (hro : jro ro) : jCok ro jGG kc_301 := jck_ok hro kt_301 (fun _ h => absurd h List.not_mem_nil)
-- X.shift57: 197 steps
set_option maxRecDepth 1000000 in
theorem kt_302 : jck [] kc_302 kl_302 ks_302 = true := jckq_t (by decide +kernel)
theorem kj_302 {ro : List (List Int32)} (hro : jro ro) : jCok ro jGG kc_302 := jck_ok hro kt_302 (fun _ h => absurd h List.not_mem_nil)
-- X.shift58: 197 steps
set_option maxRecDepth 1000000 in
theorem kt_303 : jck [] kc_303 kl_303 ks_303 = true := jckq_t (by decide +kernel)
theorem kj_303 {ro : List (List Int32)} (hro : jro ro) : jCok ro jGG kc_303 := jck_ok hro kt_303 (fun _ h => absurd h List.not_mem_nil)
-- X.shift59: 197 steps
set_option maxRecDepth 1000000 in
theorem kt_304 : jck [] kc_304 kl_304 ks_304 = true := jckq_t (by decide +kernel)
theorem kj_304 {ro : List (List Int32)} (hro : jro ro) : jCok ro jGG kc_304 := jck_ok hro kt_304 (fun _ h => absurd h List.not_mem_nil)
-- X.shift60: 197 steps
set_option maxRecDepth 1000000 in
theorem kt_305 : jck [] kc_305 kl_305 ks_305 = true := jckq_t (by decide +kernel)
theorem kj_305 {ro : List (List Int32)} (hro : jro ro) : jCok ro jGG kc_305 := jck_ok hro kt_305 (fun _ h => absurd h List.not_mem_nil)
