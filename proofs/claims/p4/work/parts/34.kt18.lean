/-! checks of contracts, 18 -/
-- M.kinds: 69 steps
set_option maxRecDepth 1000000 in
theorem kt_201 : jck [kc_137, kc_90, kc_159] kc_201 kl_201 ks_201 = true := jckq_t (by decide +kernel)
theorem kj_201 {ro : List (List Int32)} (hro : jro ro) : jCok ro jGG kc_201 := jck_ok hro kt_201 (List.forall_mem_cons.mpr ⟨kj_137 hro, List.forall_mem_cons.mpr ⟨kj_90 hro, List.forall_mem_cons.mpr ⟨kj_159 hro, fun _ h => absurd h List.not_mem_nil⟩⟩⟩)
-- X.pass: 167 steps
set_option maxRecDepth 1000000 in
theorem kt_202 : jck [kc_2] kc_202 kl_202 ks_202 = true := jckq_t (by decide +kernel)
theorem kj_202 {ro : List (List Int32)} (hro : jro ro) : jCok ro jGG kc_202 := jck_ok hro kt_202 (List.forall_mem_cons.mpr ⟨kj_2 hro, fun _ h => absurd h List.not_mem_nil⟩)
-- M.pass: 343 steps
set_option maxRecDepth 1000000 in
theorem kt_203 : jck [kc_135] kc_203 kl_203 ks_203 = true := jckq_t (by decide +kernel)
theorem kj_203 {ro : List (List Int32)} (hro : jro ro) : jCok ro jGG kc_203 := jck_ok hro kt_203 (List.forall_mem_cons.mpr ⟨kj_135 hro, fun _ h => absurd h List.not_mem_nil⟩)
-- X.go: 97 steps
set_option maxRecDepth 1000000 in
theorem kt_204 : jck [] kc_204 kl_204 ks_204 = true := jckq_t (by decide +kernel)
theorem kj_204 {ro : List (List Int32)} (hro : jro ro) : jCok ro jGG kc_204 := jck_ok hro kt_204 (fun _ h => absurd h List.not_mem_nil)
-- M.go: 114 steps
set_option maxRecDepth 1000000 in
theorem kt_205 : jck [] kc_205 kl_205 ks_205 = true := jckq_t (by decide +kernel)
theorem kj_205 {ro : List (List Int32)} (hro : jro ro) : jCok ro jGG kc_205 := jck_ok hro kt_205 (fun _ h => absurd h List.not_mem_nil)
def kc_206p : jC := (150, 6, [.inl (.ref 0), .inr (0, (-2147483648), 2147483647)], [], [(20, 4), (23, 9999), (24, 9999), (33, 9999)], [(some (0, (-2147483648), 2147483647), [])])
-- X.judge: 67 steps
set_option maxRecDepth 1000000 in
theorem kt_206 : jck [kc_3, kc_42] kc_206p kl_206 ks_206 = true := jckq_t (by decide +kernel)
theorem kj_206 {ro : List (List Int32)} (hro : jro ro) : jCok ro jGG kc_206p := jck_ok hro kt_206 (List.forall_mem_cons.mpr ⟨kj_3 hro, List.forall_mem_cons.mpr ⟨kj_42 hro, fun _ h => absurd h List.not_mem_nil⟩⟩)
-- M.judge: 114 steps
set_option maxRecDepth 1000000 in
theorem kt_207 : jck [kc_137] kc_207 kl_207 ks_207 = true := jckq_t (by decide +kernel)
theorem kj_207 {ro : List (List Int32)} (hro : jro ro) : jCok ro jGG kc_207 := jck_ok hro kt_207 (List.forall_mem_cons.mpr ⟨kj_137 hro, fun _ h => absurd h List.not_mem_nil⟩)
-- X.watch: 195 steps
set_option maxRecDepth 1000000 in
theorem kt_208 : jck [] kc_208 kl_208 ks_208 = true := jckq_t (by decide +kernel)
theorem kj_208 {ro : List (List Int32)} (hro : jro ro) : jCok ro jGG kc_208 := jck_ok hro kt_208 (fun _ h => absurd h List.not_mem_nil)
-- M.watch: 217 steps
set_option maxRecDepth 1000000 in
theorem kt_209 : jck [] kc_209 kl_209 ks_209 = true := jckq_t (by decide +kernel)
theorem kj_209 {ro : List (List Int32)} (hro : jro ro) : jCok ro jGG kc_209 := jck_ok hro kt_209 (fun _ h => absurd h List.not_mem_nil)
-- X.sight: 101 steps
set_option maxRecDepth 1000000 in
theorem kt_210 : jck [] kc_210 kl_210 ks_210 = true := jckq_t (by decide +kernel)
theorem kj_210 {ro : List (List Int32)} (hro : jro ro) : jCok ro jGG kc_210 := jck_ok hro kt_210 (fun _ h => absurd h List.not_mem_nil)
-- M.sight: 99 steps
set_option maxRecDepth 1000000 in
theorem kt_211 : jck [] kc_211 kl_211 ks_211 = true := jckq_t (by decide +kernel)
theorem kj_211 {ro : List (List Int32)} (hro : jro ro) : jCok ro jGG kc_211 := jck_ok hro kt_211 (fun _ h => absurd h List.not_mem_nil)
-- X.atLeast: 70 steps
set_option maxRecDepth 1000000 in
theorem kt_212 : jck [kc_30, kc_41] kc_212 kl_212 ks_212 = true := jckq_t (by decide +kernel)
theorem kj_212 {ro : List (List Int32)} (hro : jro ro) : jCok ro jGG kc_212 := jck_ok hro kt_212 (List.forall_mem_cons.mpr ⟨kj_30 hro, List.forall_mem_cons.mpr ⟨kj_41 hro, fun _ h => absurd h List.not_mem_nil⟩⟩)
-- M.atLeast: 215 steps
set_option maxRecDepth 1000000 in
theorem kt_213 : jck [kc_160, kc_161] kc_213 kl_213 ks_213 = true := jckq_t (by decide +kernel)
theorem kj_213 {ro : List (List Int32)} (hro : jro ro) : jCok ro jGG kc_213 := jck_ok hro kt_213 (List.forall_mem_cons.mpr ⟨kj_160 hro, List.forall_mem_cons.mpr ⟨kj_161 hro, fun _ h => absurd h List.not_mem_nil⟩⟩)
-- X.who: 29 steps
set_option maxRecDepth 1000000 in
theorem kt_214 : jck [kc_29] kc_214 kl_214 ks_214 = true := jckq_t (by decide +kernel)
theorem kj_214 {ro : List (List Int32)} (hro : jro ro) : jCok ro jGG kc_214 := jck_ok hro kt_214 (List.forall_mem_cons.mpr ⟨kj_29 hro, fun _ h => absurd h List.not_mem_nil⟩)
-- M.who: 36 steps
set_option maxRecDepth 1000000 in
theorem kt_215 : jck [kc_163] kc_215 kl_215 ks_215 = true := jckq_t (by decide +kernel)
theorem kj_215 {ro : List (List Int32)} (hro : jro ro) : jCok ro jGG kc_215 := jck_ok hro kt_215 (List.forall_mem_cons.mpr ⟨kj_163 hro, fun _ h => absurd h List.not_mem_nil⟩)
-- X.gone: 137 steps
set_option maxRecDepth 1000000 in
theorem kt_216 : jck [kc_29, kc_3] kc_216 kl_216 ks_216 = true := jckq_t (by decide +kernel)
theorem kj_216 {ro : List (List Int32)} (hro : jro ro) : jCok ro jGG kc_216 := jck_ok hro kt_216 (List.forall_mem_cons.mpr ⟨kj_29 hro, List.forall_mem_cons.mpr ⟨kj_3 hro, fun _ h => absurd h List.not_mem_nil⟩⟩)
-- M.gone: 152 steps
set_option maxRecDepth 1000000 in
theorem kt_217 : jck [kc_163, kc_137] kc_217 kl_217 ks_217 = true := jckq_t (by decide +kernel)
theorem kj_217 {ro : List (List Int32)} (hro : jro ro) : jCok ro jGG kc_217 := jck_ok hro kt_217 (List.forall_mem_cons.mpr ⟨kj_163 hro, List.forall_mem_cons.mpr ⟨kj_137 hro, fun _ h => absurd h List.not_mem_nil⟩⟩)
-- X.months: 15 steps
set_option maxRecDepth 1000000 in
theorem kt_218 : jck [kc_4] kc_218 kl_218 ks_218 = true := jckq_t (by decide +kernel)
theorem kj_218 {ro : List (List Int32)} (hro : jro ro) : jCok ro jGG kc_218 := jck_ok hro kt_218 (List.forall_mem_cons.mpr ⟨kj_4 hro, fun _ h => absurd h List.not_mem_nil⟩)
-- M.months: 604 steps
set_option maxRecDepth 1000000 in
theorem kt_219 : jck [kc_135] kc_219 kl_219 ks_219 = true := jckq_t (by decide +kernel)
theorem kj_219 {ro : List (List Int32)} (hro : jro ro) : jCok ro jGG kc_219 := jck_ok hro kt_219 (List.forall_mem_cons.mpr ⟨kj_135 hro, fun _ h => absurd h List.not_mem_nil⟩)
-- X.turn: 34 steps
set_option maxRecDepth 1000000 in
theorem kt_220 : jck [] kc_220 kl_220 ks_220 = true := jckq_t (by decide +kernel)
theorem kj_220 {ro : List (List Int32)} (hro : jro ro) : jCok ro jGG kc_220 := jck_ok hro kt_220 (fun _ h => absurd h List.not_mem_nil)
-- M.turn: 38 steps
set_option maxRecDepth 1000000 in
theorem kt_221 : jck [] kc_221 kl_221 ks_221 = true := jckq_t (by decide +kernel)
theorem kj_221 {ro : List (List Int32)} (hro : jro ro) : jCok ro jGG kc_221 := jck_ok hro kt_221 (fun _ h => absurd h List.not_mem_nil)
-- X.image: 16 steps
set_option maxRecDepth 1000000 in
theorem kt_222 : jck [kc_88] kc_222 kl_222 ks_222 = true := jckq_t (by decide +kernel)
theorem kj_222 {ro : List (List Int32)} (hro : jro ro) : jCok ro jGG kc_222 := jck_ok hro kt_222 (List.forall_mem_cons.mpr ⟨kj_88 hro, fun _ h => absurd h List.not_mem_nil⟩)
-- M.image: 68 steps
set_option maxRecDepth 1000000 in
theorem kt_223 : jck [] kc_223 kl_223 ks_223 = true := jckq_t (by decide +kernel)
theorem kj_223 {ro : List (List Int32)} (hro : jro ro) : jCok ro jGG kc_223 := jck_ok hro kt_223 (fun _ h => absurd h List.not_mem_nil)
-- X.back: 13 steps
set_option maxRecDepth 1000000 in
theorem kt_224 : jck [kc_89] kc_224 kl_224 ks_224 = true := jckq_t (by decide +kernel)
theorem kj_224 {ro : List (List Int32)} (hro : jro ro) : jCok ro jGG kc_224 := jck_ok hro kt_224 (List.forall_mem_cons.mpr ⟨kj_89 hro, fun _ h => absurd h List.not_mem_nil⟩)
-- M.back: 57 steps
set_option maxRecDepth 1000000 in
theorem kt_225 : jck [] kc_225 kl_225 ks_225 = true := jckq_t (by decide +kernel)
theorem kj_225 {ro : List (List Int32)} (hro : jro ro) : jCok ro jGG kc_225 := jck_ok hro kt_225 (fun _ h => absurd h List.not_mem_nil)
-- X.undo: 85 steps
set_option maxRecDepth 1000000 in
theorem kt_226 : jck [] kc_226 kl_226 ks_226 = true := jckq_t (by decide +kernel)
theorem kj_226 {ro : List (List Int32)} (hro : jro ro) : jCok ro jGG kc_226 := jck_ok hro kt_226 (fun _ h => absurd h List.not_mem_nil)
-- X.redo: 126 steps
set_option maxRecDepth 1000000 in
theorem kt_228 : jck [] kc_228 kl_228 ks_228 = true := jckq_t (by decide +kernel)
theorem kj_228 {ro : List (List Int32)} (hro : jro ro) : jCok ro jGG kc_228 := jck_ok hro kt_228 (fun _ h => absurd h List.not_mem_nil)
-- X.body: 50 steps
set_option maxRecDepth 1000000 in
theorem kt_230 : jck [] kc_230 kl_230 ks_230 = true := jckq_t (by decide +kernel)
theorem kj_230 {ro : List (List Int32)} (hro : jro ro) : jCok ro jGG kc_230 := jck_ok hro kt_230 (fun _ h => absurd h List.not_mem_nil)
-- M.body: 50 steps
set_option maxRecDepth 1000000 in
theorem kt_231 : jck [] kc_231 kl_231 ks_231 = true := jckq_t (by decide +kernel)
theorem kj_231 {ro : List (List Int32)} (hro : jro ro) : jCok ro jGG kc_231 := jck_ok hro kt_231 (fun _ h => absurd h List.not_mem_nil)
-- X.trace: 23 steps
set_option maxRecDepth 1000000 in
theorem kt_234 : jck [] kc_234 kl_234 ks_234 = true := jckq_t (by decide +kernel)
theorem kj_234 {ro : List (List Int32)} (hro : jro ro) : jCok ro jGG kc_234 := jck_ok hro kt_234 (fun _ h => absurd h List.not_mem_nil)
-- M.trace: 21 steps
set_option maxRecDepth 1000000 in
theorem kt_235 : jck [] kc_235 kl_235 ks_235 = true := jckq_t (by decide +kernel)
theorem kj_235 {ro : List (List Int32)} (hro : jro ro) : jCok ro jGG kc_235 := jck_ok hro kt_235 (fun _ h => absurd h List.not_mem_nil)
-- X.keep: 99 steps
set_option maxRecDepth 1000000 in
theorem kt_236 : jck [] kc_236 kl_236 ks_236 = true := jckq_t (by decide +kernel)
theorem kj_236 {ro : List (List Int32)} (hro : jro ro) : jCok ro jGG kc_236 := jck_ok hro kt_236 (fun _ h => absurd h List.not_mem_nil)
-- M.keep: 112 steps
set_option maxRecDepth 1000000 in
theorem kt_237 : jck [] kc_237 kl_237 ks_237 = true := jckq_t (by decide +kernel)
theorem kj_237 {ro : List (List Int32)} (hro : jro ro) : jCok ro jGG kc_237 := jck_ok hro kt_237 (fun _ h => absurd h List.not_mem_nil)
-- X.row: 95 steps
set_option maxRecDepth 1000000 in
theorem kt_238 : jck [] kc_238 kl_238 ks_238 = true := jckq_t (by decide +kernel)
theorem kj_238 {ro : List (List Int32)} (hro : jro ro) : jCok ro jGG kc_238 := jck_ok hro kt_238 (fun _ h => absurd h List.not_mem_nil)
-- M.row: 100 steps
set_option maxRecDepth 1000000 in
theorem kt_239 : jck [] kc_239 kl_239 ks_239 = true := jckq_t (by decide +kernel)
theorem kj_239 {ro : List (List Int32)} (hro : jro ro) : jCok ro jGG kc_239 := jck_ok hro kt_239 (fun _ h => absurd h List.not_mem_nil)
-- X.put: 167 steps
set_option maxRecDepth 1000000 in
theorem kt_240 : jck [] kc_240 kl_240 ks_240 = true := jckq_t (by decide +kernel)
theorem kj_240 {ro : List (List Int32)} (hro : jro ro) : jCok ro jGG kc_240 := jck_ok hro kt_240 (fun _ h => absurd h List.not_mem_nil)
-- M.put: 211 steps
set_option maxRecDepth 1000000 in
theorem kt_241 : jck [] kc_241 kl_241 ks_241 = true := jckq_t (by decide +kernel)
theorem kj_241 {ro : List (List Int32)} (hro : jro ro) : jCok ro jGG kc_241 := jck_ok hro kt_241 (fun _ h => absurd h List.not_mem_nil)
