/-! checks of contracts, 19 -/
-- X.back: 13 steps
set_option maxRecDepth 1000000 in
theorem kt_224 : jck [kc_89] kc_224 kl_224 ks_224 = true := by decide +kernel
theorem kj_224 {ro : List (List Int32)} (hro : jro ro) : jCok ro jGG kc_224 := jck_ok hro kt_224 (List.forall_mem_cons.mpr ⟨kj_89 hro, fun _ h => absurd h List.not_mem_nil⟩)
-- M.back: 57 steps
set_option maxRecDepth 1000000 in
theorem kt_225 : jck [] kc_225 kl_225 ks_225 = true := by decide +kernel
theorem kj_225 {ro : List (List Int32)} (hro : jro ro) : jCok ro jGG kc_225 := jck_ok hro kt_225 (fun _ h => absurd h List.not_mem_nil)
-- X.undo: 85 steps
set_option maxRecDepth 1000000 in
theorem kt_226 : jck [] kc_226 kl_226 ks_226 = true := by decide +kernel
theorem kj_226 {ro : List (List Int32)} (hro : jro ro) : jCok ro jGG kc_226 := jck_ok hro kt_226 (fun _ h => absurd h List.not_mem_nil)
-- M.undo: 27 steps
set_option maxRecDepth 1000000 in
theorem kt_227 : jci jRR [] 179 0 [.inl (.ref 66)] 0 kl_227 ks_227 = true := by decide +kernel
-- X.redo: 126 steps
set_option maxRecDepth 1000000 in
theorem kt_228 : jck [] kc_228 kl_228 ks_228 = true := by decide +kernel
theorem kj_228 {ro : List (List Int32)} (hro : jro ro) : jCok ro jGG kc_228 := jck_ok hro kt_228 (fun _ h => absurd h List.not_mem_nil)
-- M.redo: 32 steps
set_option maxRecDepth 1000000 in
theorem kt_229 : jci jRR [] 180 0 [.inl (.ref 66)] 0 kl_229 ks_229 = true := by decide +kernel
-- X.body: 50 steps
set_option maxRecDepth 1000000 in
theorem kt_230 : jck [] kc_230 kl_230 ks_230 = true := by decide +kernel
theorem kj_230 {ro : List (List Int32)} (hro : jro ro) : jCok ro jGG kc_230 := jck_ok hro kt_230 (fun _ h => absurd h List.not_mem_nil)
-- M.body: 50 steps
set_option maxRecDepth 1000000 in
theorem kt_231 : jck [] kc_231 kl_231 ks_231 = true := by decide +kernel
theorem kj_231 {ro : List (List Int32)} (hro : jro ro) : jCok ro jGG kc_231 := jck_ok hro kt_231 (fun _ h => absurd h List.not_mem_nil)
-- X.act: 8885 steps
set_option maxRecDepth 1000000 in
theorem kt_232 : jck [] kc_232 kl_232 ks_232 = true := by decide +kernel
theorem kj_232 {ro : List (List Int32)} (hro : jro ro) : jCok ro jGG kc_232 := jck_ok hro kt_232 (fun _ h => absurd h List.not_mem_nil)
