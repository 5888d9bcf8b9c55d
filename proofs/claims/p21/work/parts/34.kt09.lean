/-! checks of contracts, 9 -/
-- M.gone: 152 steps
set_option maxRecDepth 1000000 in
theorem kt_217 : jck [kc_163, kc_137] kc_217 kl_217 ks_217 = true := jckq_t (by decide +kernel)
theorem kj_217 {ro : List (List Int32)} (hro : jro ro) : jCok ro jGG kc_217 := jck_ok hro kt_217 (List.forall_mem_cons.mpr ⟨kj_163 hro, List.forall_mem_cons.mpr ⟨kj_137 hro, fun _ h => absurd h List.not_mem_nil⟩⟩)
-- X.months: 15 steps
set_option maxRecDepth 1000000 in
theorem kt_218 : jck [kc_4] kc_218 kl_218 ks_218 = true := jckq_t (by decide +kernel)
theorem kj_218 {ro : List (List Int32)} (hro : jro ro) : jCok ro jGG kc_218 := jck_ok hro kt_218 (List.forall_mem_cons.mpr ⟨kj_4 hro, fun _ h => absurd h List.not_mem_nil⟩)
-- M.months: 604 steps
set_option maxRecDepth 1000000 in
theorem kt_219 : jck [kc_135] kc_219 kl_219 ks_219 = true := jckq_t (by decide +kernel)
theorem kj_219 {ro : List (List Int32)} (hro : jro ro) : jCok ro jGG kc_219 := jck_ok hro kt_219 (List.forall_mem_cons.mpr ⟨kj_135 hro, fun _ h => absurd h List.not_mem_nil⟩)
-- X.turn: 34 steps
set_option maxRecDepth 1000000 in
theorem kt_220 : jck [] kc_220 kl_220 ks_220 = true := jckq_t (by decide +kernel)
theorem kj_220 {ro : List (List Int32)} (hro : jro ro) : jCok ro jGG kc_220 := jck_ok hro kt_220 (fun _ h => absurd h List.not_mem_nil)
-- M.turn: 38 steps
set_option maxRecDepth 1000000 in
theorem kt_221 : jck [] kc_221 kl_221 ks_221 = true := jckq_t (by decide +kernel)
theorem kj_221 {ro : List (List Int32)} (hro : jro ro) : jCok ro jGG kc_221 := jck_ok hro kt_221 (fun _ h => absurd h List.not_mem_nil)
-- X.image: 16 steps
set_option maxRecDepth 1000000 in
theorem kt_222 : jck [kc_88] kc_222 kl_222 ks_222 = true := jckq_t (by decide +kernel)
theorem kj_222 {ro : List (List Int32)} (hro : jro ro) : jCok ro jGG kc_222 := jck_ok hro kt_222 (List.forall_mem_cons.mpr ⟨kj_88 hro, fun _ h => absurd h List.not_mem_nil⟩)
-- M.image: 68 steps
set_option maxRecDepth 1000000 in
theorem kt_223 : jck [] kc_223 kl_223 ks_223 = true := jckq_t (by decide +kernel)
theorem kj_223 {ro : List (List Int32)} (hro : jro ro) : jCok ro jGG kc_223 := jck_ok hro kt_223 (fun _ h => absurd h List.not_mem_nil)
-- X.back: 13 steps
set_option maxRecDepth 1000000 in
theorem kt_224 : jck [kc_89] kc_224 kl_224 ks_224 = true := jckq_t (by decide +kernel)
theorem kj_224 {ro : List (List Int32)} (hro : jro ro) : jCok ro jGG kc_224 := jck_ok hro kt_224 (List.forall_mem_cons.mpr ⟨kj_89 hro, fun _ h => absurd h List.not_mem_nil⟩)
-- M.back: 57 steps
set_option maxRecDepth 1000000 in
theorem kt_225 : jck [] kc_225 kl_225 ks_225 = true := jckq_t (by decide +kernel)
theorem kj_225 {ro : List (List Int32)} (hro : jro ro) : jCok ro jGG kc_225 := jck_ok hro kt_225 (fun _ h => absurd h List.not_mem_nil)
-- X.undo: 85 steps
set_option maxRecDepth 1000000 in
theorem kt_226 : jck [] kc_226 kl_226 ks_226 = true := jckq_t (by decide +kernel)
theorem kj_226 {ro : List (List Int32)} (hro : jro ro) : jCok ro jGG kc_226 := jck_ok hro kt_226 (fun _ h => absurd h List.not_mem_nil)
-- X.redo: 126 steps
set_option maxRecDepth 1000000 in
theorem kt_228 : jck [] kc_228 kl_228 ks_228 = true := jckq_t (by decide +kernel)
theorem kj_228 {ro : List (List Int32)} (hro : jro ro) : jCok ro jGG kc_228 := jck_ok hro kt_228 (fun _ h => absurd h List.not_mem_nil)
-- X.body: 50 steps
set_option maxRecDepth 1000000 in
theorem kt_230 : jck [] kc_230 kl_230 ks_230 = true := jckq_t (by decide +kernel)
theorem kj_230 {ro : List (List Int32)} (hro : jro ro) : jCok ro jGG kc_230 := jck_ok hro kt_230 (fun _ h => absurd h List.not_mem_nil)
-- M.body: 50 steps
set_option maxRecDepth 1000000 in
theorem kt_231 : jck [] kc_231 kl_231 ks_231 = true := jckq_t (by decide +kernel)
theorem kj_231 {ro : List (List Int32)} (hro : jro ro) : jCok ro jGG kc_231 := jck_ok hro kt_231 (fun _ h => absurd h List.not_mem_nil)
-- X.trace: 23 steps
set_option maxRecDepth 1000000 in
theorem kt_234 : jck [] kc_234 kl_234 ks_234 = true := jckq_t (by decide +kernel)
theorem kj_234 {ro : List (List Int32)} (hro : jro ro) : jCok ro jGG kc_234 := jck_ok hro kt_234 (fun _ h => absurd h List.not_mem_nil)
-- M.trace: 21 steps
set_option maxRecDepth 1000000 in
theorem kt_235 : jck [] kc_235 kl_235 ks_235 = true := jckq_t (by decide +kernel)
theorem kj_235 {ro : List (List Int32)} (hro : jro ro) : jCok ro jGG kc_235 := jck_ok hro kt_235 (fun _ h => absurd h List.not_mem_nil)
-- X.keep: 99 steps
set_option maxRecDepth 1000000 in
theorem kt_236 : jck [] kc_236 kl_236 ks_236 = true := jckq_t (by decide +kernel)
theorem kj_236 {ro : List (List Int32)} (hro : jro ro) : jCok ro jGG kc_236 := jck_ok hro kt_236 (fun _ h => absurd h List.not_mem_nil)
-- M.keep: 112 steps
set_option maxRecDepth 1000000 in
theorem kt_237 : jck [] kc_237 kl_237 ks_237 = true := jckq_t (by decide +kernel)
theorem kj_237 {ro : List (List Int32)} (hro : jro ro) : jCok ro jGG kc_237 := jck_ok hro kt_237 (fun _ h => absurd h List.not_mem_nil)
-- X.row: 95 steps
set_option maxRecDepth 1000000 in
theorem kt_238 : jck [] kc_238 kl_238 ks_238 = true := jckq_t (by decide +kernel)
theorem kj_238 {ro : List (List Int32)} (hro : jro ro) : jCok ro jGG kc_238 := jck_ok hro kt_238 (fun _ h => absurd h List.not_mem_nil)
-- M.row: 100 steps
set_option maxRecDepth 1000000 in
theorem kt_239 : jck [] kc_239 kl_239 ks_239 = true := jckq_t (by decide +kernel)
theorem kj_239 {ro : List (List Int32)} (hro : jro ro) : jCok ro jGG kc_239 := jck_ok hro kt_239 (fun _ h => absurd h List.not_mem_nil)
-- X.put: 167 steps
set_option maxRecDepth 1000000 in
theorem kt_240 : jck [] kc_240 kl_240 ks_240 = true := jckq_t (by decide +kernel)
theorem kj_240 {ro : List (List Int32)} (hro : jro ro) : jCok ro jGG kc_240 := jck_ok hro kt_240 (fun _ h => absurd h List.not_mem_nil)
-- M.put: 211 steps
set_option maxRecDepth 1000000 in
theorem kt_241 : jck [] kc_241 kl_241 ks_241 = true := jckq_t (by decide +kernel)
theorem kj_241 {ro : List (List Int32)} (hro : jro ro) : jCok ro jGG kc_241 := jck_ok hro kt_241 (fun _ h => absurd h List.not_mem_nil)
-- X.element: 92 steps
set_option maxRecDepth 1000000 in
theorem kt_242 : jck [] kc_242 kl_242 ks_242 = true := jckq_t (by decide +kernel)
theorem kj_242 {ro : List (List Int32)} (hro : jro ro) : jCok ro jGG kc_242 := jck_ok hro kt_242 (fun _ h => absurd h List.not_mem_nil)
-- M.element: 100 steps
set_option maxRecDepth 1000000 in
theorem kt_243 : jck [] kc_243 kl_243 ks_243 = true := jckq_t (by decide +kernel)
theorem kj_243 {ro : List (List Int32)} (hro : jro ro) : jCok ro jGG kc_243 := jck_ok hro kt_243 (fun _ h => absurd h List.not_mem_nil)
-- X.shift-2147483648: 119 steps
set_option maxRecDepth 1000000 in
theorem kt_244 : jck [] kc_244 kl_244 ks_244 = true := jckq_t (by decide +kernel)
theorem kj_244 {ro : List (List Int32)} (hro : jro ro) : jCok ro jGG kc_244 := jck_ok hro kt_244 (fun _ h => absurd h List.not_mem_nil)
-- X.shift0: 197 steps
set_option maxRecDepth 1000000 in
theorem kt_245 : jck [] kc_245 kl_245 ks_245 = true := jckq_t (by decide +kernel)
theorem kj_245 {ro : List (List Int32)} (hro : jro ro) : jCok ro jGG kc_245 := jck_ok hro kt_245 (fun _ h => absurd h List.not_mem_nil)
-- X.shift1: 197 steps
set_option maxRecDepth 1000000 in
theorem kt_246 : jck [] kc_246 kl_246 ks_246 = true := jckq_t (by decide +kernel)
theorem kj_246 {ro : List (List Int32)} (hro : jro ro) : jCok ro jGG kc_246 := jck_ok hro kt_246 (fun _ h => absurd h List.not_mem_nil)
-- X.shift2: 197 steps
set_option maxRecDepth 1000000 in
theorem kt_247 : jck [] kc_247 kl_247 ks_247 = true := jckq_t (by decide +kernel)
theorem kj_247 {ro : List (List Int32)} (hro : jro ro) : jCok ro jGG kc_247 := jck_ok hro kt_247 (fun _ h => absurd h List.not_mem_nil)
-- X.shift3: 197 steps
set_option maxRecDepth 1000000 in
theorem kt_248 : jck [] kc_248 kl_248 ks_248 = true := jckq_t (by decide +kernel)
theorem kj_248 {ro : List (List Int32)} (hro : jro ro) : jCok ro jGG kc_248 := jck_ok hro kt_248 (fun _ h => absurd h List.not_mem_nil)
-- X.shift4: 197 steps
set_option maxRecDepth 1000000 in
theorem kt_249 : jck [] kc_249 kl_249 ks_249 = true := jckq_t (by decide +kernel)
theorem kj_249 {ro : List (List Int32)} (hro : jro ro) : jCok ro jGG kc_249 := jck_ok hro kt_249 (fun _ h => absurd h List.not_mem_nil)
-- X.shift5: 197 steps
set_option maxRecDepth 1000000 in
theorem kt_250 : jck [] kc_250 kl_250 ks_250 = true := jckq_t (by decide +kernel)
theorem kj_250 {ro : List (List Int32)} (hro : jro ro) : jCok ro jGG kc_250 := jck_ok hro kt_250 (fun _ h => absurd h List.not_mem_nil)
-- X.shift6: 197 steps
set_option maxRecDepth 1000000 in
theorem kt_251 : jck [] kc_251 kl_251 ks_251 = true := jckq_t (by decide +kernel)
theorem kj_251 {ro : List (List Int32)} (hro : jro ro) : jCok ro jGG kc_251 := jck_ok hro kt_251 (fun _ h => absurd h List.not_mem_nil)
-- X.shift7: 197 steps
set_option maxRecDepth 1000000 in
theorem kt_252 : jck [] kc_252 kl_252 ks_252 = true := jckq_t (by decide +kernel)
theorem kj_252 {ro : List (List Int32)} (hro : jro ro) : jCok ro jGG kc_252 := jck_ok hro kt_252 (fun _ h => absurd h List.not_mem_nil)
-- X.shift8: 197 steps
set_option maxRecDepth 1000000 in
theorem kt_253 : jck [] kc_253 kl_253 ks_253 = true := jckq_t (by decide +kernel)
theorem kj_253 {ro : List (List Int32)} (hro : jro ro) : jCok ro jGG kc_253 := jck_ok hro kt_253 (fun _ h => absurd h List.not_mem_nil)
-- X.shift9: 197 steps
set_option maxRecDepth 1000000 in
theorem kt_254 : jck [] kc_254 kl_254 ks_254 = true := jckq_t (by decide +kernel)
theorem kj_254 {ro : List (List Int32)} (hro : jro ro) : jCok ro jGG kc_254 := jck_ok hro kt_254 (fun _ h => absurd h List.not_mem_nil)
-- X.shift10: 197 steps
set_option maxRecDepth 1000000 in
theorem kt_255 : jck [] kc_255 kl_255 ks_255 = true := jckq_t (by decide +kernel)
theorem kj_255 {ro : List (List Int32)} (hro : jro ro) : jCok ro jGG kc_255 := jck_ok hro kt_255 (fun _ h => absurd h List.not_mem_nil)
-- X.shift11: 197 steps
set_option maxRecDepth 1000000 in
theorem kt_256 : jck [] kc_256 kl_256 ks_256 = true := jckq_t (by decide +kernel)
theorem kj_256 {ro : List (List Int32)} (hro : jro ro) : jCok ro jGG kc_256 := jck_ok hro kt_256 (fun _ h => absurd h List.not_mem_nil)
-- X.shift12: 197 steps
set_option maxRecDepth 1000000 in
theorem kt_257 : jck [] kc_257 kl_257 ks_257 = true := jckq_t (by decide +kernel)
theorem kj_257 {ro : List (List Int32)} (hro : jro ro) : jCok ro jGG kc_257 := jck_ok hro kt_257 (fun _ h => absurd h List.not_mem_nil)
-- X.shift13: 197 steps
set_option maxRecDepth 1000000 in
theorem kt_258 : jck [] kc_258 kl_258 ks_258 = true := jckq_t (by decide +kernel)
theorem kj_258 {ro : List (List Int32)} (hro : jro ro) : jCok ro jGG kc_258 := jck_ok hro kt_258 (fun _ h => absurd h List.not_mem_nil)
-- X.shift14: 197 steps
set_option maxRecDepth 1000000 in
theorem kt_259 : jck [] kc_259 kl_259 ks_259 = true := jckq_t (by decide +kernel)
theorem kj_259 {ro : List (List Int32)} (hro : jro ro) : jCok ro jGG kc_259 := jck_ok hro kt_259 (fun _ h => absurd h List.not_mem_nil)
-- X.shift15: 197 steps
set_option maxRecDepth 1000000 in
theorem kt_260 : jck [] kc_260 kl_260 ks_260 = true := jckq_t (by decide +kernel)
theorem kj_260 {ro : List (List Int32)} (hro : jro ro) : jCok ro jGG kc_260 := jck_ok hro kt_260 (fun _ h => absurd h List.not_mem_nil)
-- X.shift16: 197 steps
set_option maxRecDepth 1000000 in
theorem kt_261 : jck [] kc_261 kl_261 ks_261 = true := jckq_t (by decide +kernel)
theorem kj_261 {ro : List (List Int32)} (hro : jro ro) : jCok ro jGG kc_261 := jck_ok hro kt_261 (fun _ h => absurd h List.not_mem_nil)
-- X.shift17: 197 steps
set_option maxRecDepth 1000000 in
theorem kt_262 : jck [] kc_262 kl_262 ks_262 = true := jckq_t (by decide +kernel)
theorem kj_262 {ro : List (List Int32)} (hro : jro ro) : jCok ro jGG kc_262 := jck_ok hro kt_262 (fun _ h => absurd h List.not_mem_nil)
-- X.shift18: 197 steps
set_option maxRecDepth 1000000 in
theorem kt_263 : jck [] kc_263 kl_263 ks_263 = true := jckq_t (by decide +kernel)
theorem kj_263 {ro : List (List Int32)} (hro : jro ro) : jCok ro jGG kc_263 := jck_ok hro kt_263 (fun _ h => absurd h List.not_mem_nil)
-- X.shift19: 197 steps
set_option maxRecDepth 1000000 in
theorem kt_264 : jck [] kc_264 kl_264 ks_264 = true := jckq_t (by decide +kernel)
theorem kj_264 {ro : List (List Int32)} (hro : jro ro) : jCok ro jGG kc_264 := jck_ok hro kt_264 (fun _ h => absurd h List.not_mem_nil)
-- X.shift20: 197 steps
set_option maxRecDepth 1000000 in
theorem kt_265 : jck [] kc_265 kl_265 ks_265 = true := jckq_t (by decide +kernel)
theorem kj_265 {ro : List (List Int32)} (hro : jro ro) : jCok ro jGG kc_265 := jck_ok hro kt_265 (fun _ h => absurd h List.not_mem_nil)
-- X.shift21: 197 steps
set_option maxRecDepth 1000000 in
theorem kt_266 : jck [] kc_266 kl_266 ks_266 = true := jckq_t (by decide +kernel)
theorem kj_266 {ro : List (List Int32)} (hro : jro ro) : jCok ro jGG kc_266 := jck_ok hro kt_266 (fun _ h => absurd h List.not_mem_nil)
-- X.shift22: 197 steps
set_option maxRecDepth 1000000 in
theorem kt_267 : jck [] kc_267 kl_267 ks_267 = true := jckq_t (by decide +kernel)
theorem kj_267 {ro : List (List Int32)} (hro : jro ro) : jCok ro jGG kc_267 := jck_ok hro kt_267 (fun _ h => absurd h List.not_mem_nil)
-- X.shift23: 197 steps
set_option maxRecDepth 1000000 in
theorem kt_268 : jck [] kc_268 kl_268 ks_268 = true := jckq_t (by decide +kernel)
theorem kj_268 {ro : List (List Int32)} (hro : jro ro) : jCok ro jGG kc_268 := jck_ok hro kt_268 (fun _ h => absurd h List.not_mem_nil)
-- X.shift24: 197 steps
set_option maxRecDepth 1000000 in
theorem kt_269 : jck [] kc_269 kl_269 ks_269 = true := jckq_t (by decide +kernel)
theorem kj_269 {ro : List (List Int32)} (hro : jro ro) : jCok ro jGG kc_269 := jck_ok hro kt_269 (fun _ h => absurd h List.not_mem_nil)
-- X.shift25: 197 steps
set_option maxRecDepth 1000000 in
theorem kt_270 : jck [] kc_270 kl_270 ks_270 = true := jckq_t (by decide +kernel)
theorem kj_270 {ro : List (List Int32)} (hro : jro ro) : jCok ro jGG kc_270 := jck_ok hro kt_270 (fun _ h => absurd h List.not_mem_nil)
-- X.shift26: 197 steps
set_option maxRecDepth 1000000 in
theorem kt_271 : jck [] kc_271 kl_271 ks_271 = true := jckq_t (by decide +kernel)
theorem kj_271 {ro : List (List Int32)} (hro : jro ro) : jCok ro jGG kc_271 := jck_ok hro kt_271 (fun _ h => absurd h List.not_mem_nil)
-- X.shift27: 197 steps
set_option maxRecDepth 1000000 in
theorem kt_272 : jck [] kc_272 kl_272 ks_272 = true := jckq_t (by decide +kernel)
theorem kj_272 {ro : List (List Int32)} (hro : jro ro) : jCok ro jGG kc_272 := jck_ok hro kt_272 (fun _ h => absurd h List.not_mem_nil)
-- X.shift28: 197 steps
set_option maxRecDepth 1000000 in
theorem kt_273 : jck [] kc_273 kl_273 ks_273 = true := jckq_t (by decide +kernel)
theorem kj_273 {ro : List (List Int32)} (hro : jro ro) : jCok ro jGG kc_273 := jck_ok hro kt_273 (fun _ h => absurd h List.not_mem_nil)
-- X.shift29: 197 steps
set_option maxRecDepth 1000000 in
theorem kt_274 : jck [] kc_274 kl_274 ks_274 = true := jckq_t (by decide +kernel)
theorem kj_274 {ro : List (List Int32)} (hro : jro ro) : jCok ro jGG kc_274 := jck_ok hro kt_274 (fun _ h => absurd h List.not_mem_nil)
-- X.shift30: 197 steps
set_option maxRecDepth 1000000 in
theorem kt_275 : jck [] kc_275 kl_275 ks_275 = true := jckq_t (by decide +kernel)
theorem kj_275 {ro : List (List Int32)} (hro : jro ro) : jCok ro jGG kc_275 := jck_ok hro kt_275 (fun _ h => absurd h List.not_mem_nil)
-- X.shift31: 197 steps
set_option maxRecDepth 1000000 in
theorem kt_276 : jck [] kc_276 kl_276 ks_276 = true := jckq_t (by decide +kernel)
theorem kj_276 {ro : List (List Int32)} (hro : jro ro) : jCok ro jGG kc_276 := jck_ok hro kt_276 (fun _ h => absurd h List.not_mem_nil)
-- X.shift32: 197 steps
set_option maxRecDepth 1000000 in
theorem kt_277 : jck [] kc_277 kl_277 ks_277 = true := jckq_t (by decide +kernel)
theorem kj_277 {ro : List (List Int32)} (hro : jro ro) : jCok ro jGG kc_277 := jck_ok hro kt_277 (fun _ h => absurd h List.not_mem_nil)
-- X.shift33: 197 steps
set_option maxRecDepth 1000000 in
theorem kt_278 : jck [] kc_278 kl_278 ks_278 = true := jckq_t (by decide +kernel)
theorem kj_278 {ro : List (List Int32)} (hro : jro ro) : jCok ro jGG kc_278 := jck_ok hro kt_278 (fun _ h => absurd h List.not_mem_nil)
