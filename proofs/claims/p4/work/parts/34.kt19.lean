/-! checks of contracts, 19 -/
-- X.element: 92 steps
set_option maxRecDepth 1000000 in
theorem kt_242 : jck [] kc_242 kl_242 ks_242 = true := jckq_t (by decide +kernel)
theorem kj_242 {ro : List (List Int32)} (hro : jro ro) : jCok ro jGG kc_242 := jck_ok hro kt_242 (fun _ h => absurd h List.not_mem_nil)
-- M.element: 100 steps
set_option maxRecDepth 1000000 in
theorem kt_243 : jck [] kc_243 kl_243 ks_243 = true := jckq_t (by decide +kernel)
theorem kj_243 {ro : List (List Int32)} (hro : jro ro) : jCok ro jGG kc_243 := jck_ok hro kt_243 (fun _ h => absurd h List.not_mem_nil)
-- X.shift-2147483648: 119 steps
set_option maxRecDepth 1000000 in
theorem kt_244 : jck [] kc_244 kl_244 ks_244 = true := jckq_t (by decide +kernel)
theorem kj_244 {ro : List (List Int32)} (hro : jro ro) : jCok ro jGG kc_244 := jck_ok hro kt_244 (fun _ h => absurd h List.not_mem_nil)
-- X.shift0: 197 steps
set_option maxRecDepth 1000000 in
theorem kt_245 : jck [] kc_245 kl_245 ks_245 = true := jckq_t (by decide +kernel)
theorem kj_245 {ro : List (List Int32)} (hro : jro ro) : jCok ro jGG kc_245 := jck_ok hro kt_245 (fun _ h => absurd h List.not_mem_nil)
-- X.shift1: 197 steps
set_option maxRecDepth 1000000 in
theorem kt_246 : jck [] kc_246 kl_246 ks_246 = true := jckq_t (by decide +kernel)
theorem kj_246 {ro : List (List Int32)} (hro : jro ro) : jCok ro jGG kc_246 := jck_ok hro kt_246 (fun _ h => absurd h List.not_mem_nil)
-- X.shift2: 197 steps
set_option maxRecDepth 1000000 in
theorem kt_247 : jck [] kc_247 kl_247 ks_247 = true := jckq_t (by decide +kernel)
theorem kj_247 {ro : List (List Int32)} (hro : jro ro) : jCok ro jGG kc_247 := jck_ok hro kt_247 (fun _ h => absurd h List.not_mem_nil)
-- X.shift3: 197 steps
set_option maxRecDepth 1000000 in
theorem kt_248 : jck [] kc_248 kl_248 ks_248 = true := jckq_t (by decide +kernel)
theorem kj_248 {ro : List (List Int32)} (hro : jro ro) : jCok ro jGG kc_248 := jck_ok hro kt_248 (fun _ h => absurd h List.not_mem_nil)
-- X.shift4: 197 steps
set_option maxRecDepth 1000000 in
theorem kt_249 : jck [] kc_249 kl_249 ks_249 = true := jckq_t (by decide +kernel)
theorem kj_249 {ro : List (List Int32)} (hro : jro ro) : jCok ro jGG kc_249 := jck_ok hro kt_249 (fun _ h => absurd h List.not_mem_nil)
-- X.shift5: 197 steps
set_option maxRecDepth 1000000 in
theorem kt_250 : jck [] kc_250 kl_250 ks_250 = true := jckq_t (by decide +kernel)
theorem kj_250 {ro : List (List Int32)} (hro : jro ro) : jCok ro jGG kc_250 := jck_ok hro kt_250 (fun _ h => absurd h List.not_mem_nil)
-- X.shift6: 197 steps
set_option maxRecDepth 1000000 in
theorem kt_251 : jck [] kc_251 kl_251 ks_251 = true := jckq_t (by decide +kernel)
theorem kj_251 {ro : List (List Int32)} (hro : jro ro) : jCok ro jGG kc_251 := jck_ok hro kt_251 (fun _ h => absurd h List.not_mem_nil)
-- X.shift7: 197 steps
set_option maxRecDepth 1000000 in
theorem kt_252 : jck [] kc_252 kl_252 ks_252 = true := jckq_t (by decide +kernel)
theorem kj_252 {ro : List (List Int32)} (hro : jro ro) : jCok ro jGG kc_252 := jck_ok hro kt_252 (fun _ h => absurd h List.not_mem_nil)
-- X.shift8: 197 steps
set_option maxRecDepth 1000000 in
theorem kt_253 : jck [] kc_253 kl_253 ks_253 = true := jckq_t (by decide +kernel)
theorem kj_253 {ro : List (List Int32)} (hro : jro ro) : jCok ro jGG kc_253 := jck_ok hro kt_253 (fun _ h => absurd h List.not_mem_nil)
-- X.shift9: 197 steps
set_option maxRecDepth 1000000 in
theorem kt_254 : jck [] kc_254 kl_254 ks_254 = true := jckq_t (by decide +kernel)
theorem kj_254 {ro : List (List Int32)} (hro : jro ro) : jCok ro jGG kc_254 := jck_ok hro kt_254 (fun _ h => absurd h List.not_mem_nil)
-- X.shift10: 197 steps
set_option maxRecDepth 1000000 in
theorem kt_255 : jck [] kc_255 kl_255 ks_255 = true := jckq_t (by decide +kernel)
theorem kj_255 {ro : List (List Int32)} (hro : jro ro) : jCok ro jGG kc_255 := jck_ok hro kt_255 (fun _ h => absurd h List.not_mem_nil)
-- X.shift11: 197 steps
set_option maxRecDepth 1000000 in
theorem kt_256 : jck [] kc_256 kl_256 ks_256 = true := jckq_t (by decide +kernel)
theorem kj_256 {ro : List (List Int32)} (hro : jro ro) : jCok ro jGG kc_256 := jck_ok hro kt_256 (fun _ h => absurd h List.not_mem_nil)
-- X.shift12: 197 steps
set_option maxRecDepth 1000000 in
theorem kt_257 : jck [] kc_257 kl_257 ks_257 = true := jckq_t (by decide +kernel)
theorem kj_257 {ro : List (List Int32)} (hro : jro ro) : jCok ro jGG kc_257 := jck_ok hro kt_257 (fun _ h => absurd h List.not_mem_nil)
-- X.shift13: 197 steps
set_option maxRecDepth 1000000 in
theorem kt_258 : jck [] kc_258 kl_258 ks_258 = true := jckq_t (by decide +kernel)
theorem kj_258 {ro : List (List Int32)} (hro : jro ro) : jCok ro jGG kc_258 := jck_ok hro kt_258 (fun _ h => absurd h List.not_mem_nil)
-- X.shift14: 197 steps
set_option maxRecDepth 1000000 in
theorem kt_259 : jck [] kc_259 kl_259 ks_259 = true := jckq_t (by decide +kernel)
theorem kj_259 {ro : List (List Int32)} (hro : jro ro) : jCok ro jGG kc_259 := jck_ok hro kt_259 (fun _ h => absurd h List.not_mem_nil)
-- X.shift15: 197 steps
set_option maxRecDepth 1000000 in
theorem kt_260 : jck [] kc_260 kl_260 ks_260 = true := jckq_t (by decide +kernel)
theorem kj_260 {ro : List (List Int32)} (hro : jro ro) : jCok ro jGG kc_260 := jck_ok hro kt_260 (fun _ h => absurd h List.not_mem_nil)
-- X.shift16: 197 steps
set_option maxRecDepth 1000000 in
theorem kt_261 : jck [] kc_261 kl_261 ks_261 = true := jckq_t (by decide +kernel)
theorem kj_261 {ro : List (List Int32)} (hro : jro ro) : jCok ro jGG kc_261 := jck_ok hro kt_261 (fun _ h => absurd h List.not_mem_nil)
-- X.shift17: 197 steps
set_option maxRecDepth 1000000 in
theorem kt_262 : jck [] kc_262 kl_262 ks_262 = true := jckq_t (by decide +kernel)
theorem kj_262 {ro : List (List Int32)} (hro : jro ro) : jCok ro jGG kc_262 := jck_ok hro kt_262 (fun _ h => absurd h List.not_mem_nil)
-- X.shift18: 197 steps
set_option maxRecDepth 1000000 in
theorem kt_263 : jck [] kc_263 kl_263 ks_263 = true := jckq_t (by decide +kernel)
theorem kj_263 {ro : List (List Int32)} (hro : jro ro) : jCok ro jGG kc_263 := jck_ok hro kt_263 (fun _ h => absurd h List.not_mem_nil)
