/-! checks of contracts, 17 -/
-- M.errand: 126 steps
set_option maxRecDepth 1000000 in
theorem kt_169 : jck [] kc_169 kl_169 ks_169 = true := jckq_t (by decide +kernel)
theorem kj_169 {ro : List (List Int32)} (hro : jro ro) : jCok ro jGG kc_169 := jck_ok hro kt_169 (fun _ h => absurd h List.not_mem_nil)
-- X.clear: 41 steps
set_option maxRecDepth 1000000 in
theorem kt_170 : jck [] kc_170 kl_170 ks_170 = true := jckq_t (by decide +kernel)
theorem kj_170 {ro : List (List Int32)} (hro : jro ro) : jCok ro jGG kc_170 := jck_ok hro kt_170 (fun _ h => absurd h List.not_mem_nil)
-- M.clear: 49 steps
set_option maxRecDepth 1000000 in
theorem kt_171 : jck [] kc_171 kl_171 ks_171 = true := jckq_t (by decide +kernel)
theorem kj_171 {ro : List (List Int32)} (hro : jro ro) : jCok ro jGG kc_171 := jck_ok hro kt_171 (fun _ h => absurd h List.not_mem_nil)
-- X.hat: 109 steps
set_option maxRecDepth 1000000 in
theorem kt_172 : jck [] kc_172 kl_172 ks_172 = true := jckq_t (by decide +kernel)
theorem kj_172 {ro : List (List Int32)} (hro : jro ro) : jCok ro jGG kc_172 := jck_ok hro kt_172 (fun _ h => absurd h List.not_mem_nil)
-- M.hat: 124 steps
set_option maxRecDepth 1000000 in
theorem kt_173 : jck [] kc_173 kl_173 ks_173 = true := jckq_t (by decide +kernel)
theorem kj_173 {ro : List (List Int32)} (hro : jro ro) : jCok ro jGG kc_173 := jck_ok hro kt_173 (fun _ h => absurd h List.not_mem_nil)
-- X.mend: 1190 steps
set_option maxRecDepth 1000000 in
theorem kt_174 : jck [] kc_174 kl_174 ks_174 = true := jckq_t (by decide +kernel)
theorem kj_174 {ro : List (List Int32)} (hro : jro ro) : jCok ro jGG kc_174 := jck_ok hro kt_174 (fun _ h => absurd h List.not_mem_nil)
-- X.of: 272 steps
set_option maxRecDepth 1000000 in
theorem kt_176 : jck [] kc_176 kl_176 ks_176 = true := jckq_t (by decide +kernel)
theorem kj_176 {ro : List (List Int32)} (hro : jro ro) : jCok ro jGG kc_176 := jck_ok hro kt_176 (fun _ h => absurd h List.not_mem_nil)
-- M.of: 277 steps
set_option maxRecDepth 1000000 in
theorem kt_177 : jck [kc_139] kc_177 kl_177 ks_177 = true := jckq_t (by decide +kernel)
theorem kj_177 {ro : List (List Int32)} (hro : jro ro) : jCok ro jGG kc_177 := jck_ok hro kt_177 (List.forall_mem_cons.mpr ⟨kj_139 hro, fun _ h => absurd h List.not_mem_nil⟩)
-- X.feed: 36 steps
set_option maxRecDepth 1000000 in
theorem kt_178 : jck [] kc_178 kl_178 ks_178 = true := jckq_t (by decide +kernel)
theorem kj_178 {ro : List (List Int32)} (hro : jro ro) : jCok ro jGG kc_178 := jck_ok hro kt_178 (fun _ h => absurd h List.not_mem_nil)
-- M.feed: 48 steps
set_option maxRecDepth 1000000 in
theorem kt_179 : jck [] kc_179 kl_179 ks_179 = true := jckq_t (by decide +kernel)
theorem kj_179 {ro : List (List Int32)} (hro : jro ro) : jCok ro jGG kc_179 := jck_ok hro kt_179 (fun _ h => absurd h List.not_mem_nil)
-- X.law: 188 steps
set_option maxRecDepth 1000000 in
theorem kt_180 : jck [kc_86, kc_87] kc_180 kl_180 ks_180 = true := jckq_t (by decide +kernel)
theorem kj_180 {ro : List (List Int32)} (hro : jro ro) : jCok ro jGG kc_180 := jck_ok hro kt_180 (List.forall_mem_cons.mpr ⟨kj_86 hro, List.forall_mem_cons.mpr ⟨kj_87 hro, fun _ h => absurd h List.not_mem_nil⟩⟩)
-- M.law: 40 steps
set_option maxRecDepth 1000000 in
theorem kt_181 : jck [kc_134] kc_181 kl_181 ks_181 = true := jckq_t (by decide +kernel)
theorem kj_181 {ro : List (List Int32)} (hro : jro ro) : jCok ro jGG kc_181 := jck_ok hro kt_181 (List.forall_mem_cons.mpr ⟨kj_134 hro, fun _ h => absurd h List.not_mem_nil⟩)
-- X.alike: 89 steps
set_option maxRecDepth 1000000 in
theorem kt_182 : jck [kc_1] kc_182 kl_182 ks_182 = true := jckq_t (by decide +kernel)
theorem kj_182 {ro : List (List Int32)} (hro : jro ro) : jCok ro jGG kc_182 := jck_ok hro kt_182 (List.forall_mem_cons.mpr ⟨kj_1 hro, fun _ h => absurd h List.not_mem_nil⟩)
-- M.alike: 113 steps
set_option maxRecDepth 1000000 in
theorem kt_183 : jck [kc_136] kc_183 kl_183 ks_183 = true := jckq_t (by decide +kernel)
theorem kj_183 {ro : List (List Int32)} (hro : jro ro) : jCok ro jGG kc_183 := jck_ok hro kt_183 (List.forall_mem_cons.mpr ⟨kj_136 hro, fun _ h => absurd h List.not_mem_nil⟩)
-- X.plan: 79 steps
set_option maxRecDepth 1000000 in
theorem kt_184 : jck [kc_3, kc_7] kc_184 kl_184 ks_184 = true := jckq_t (by decide +kernel)
theorem kj_184 {ro : List (List Int32)} (hro : jro ro) : jCok ro jGG kc_184 := jck_ok hro kt_184 (List.forall_mem_cons.mpr ⟨kj_3 hro, List.forall_mem_cons.mpr ⟨kj_7 hro, fun _ h => absurd h List.not_mem_nil⟩⟩)
-- M.plan: 105 steps
set_option maxRecDepth 1000000 in
theorem kt_185 : jck [kc_141] kc_185 kl_185 ks_185 = true := jckq_t (by decide +kernel)
theorem kj_185 {ro : List (List Int32)} (hro : jro ro) : jCok ro jGG kc_185 := jck_ok hro kt_185 (List.forall_mem_cons.mpr ⟨kj_141 hro, fun _ h => absurd h List.not_mem_nil⟩)
-- X.where: 87 steps
set_option maxRecDepth 1000000 in
theorem kt_186 : jck [kc_3, kc_7] kc_186 kl_186 ks_186 = true := jckq_t (by decide +kernel)
theorem kj_186 {ro : List (List Int32)} (hro : jro ro) : jCok ro jGG kc_186 := jck_ok hro kt_186 (List.forall_mem_cons.mpr ⟨kj_3 hro, List.forall_mem_cons.mpr ⟨kj_7 hro, fun _ h => absurd h List.not_mem_nil⟩⟩)
-- M.where: 76 steps
set_option maxRecDepth 1000000 in
theorem kt_187 : jck [kc_141] kc_187 kl_187 ks_187 = true := jckq_t (by decide +kernel)
theorem kj_187 {ro : List (List Int32)} (hro : jro ro) : jCok ro jGG kc_187 := jck_ok hro kt_187 (List.forall_mem_cons.mpr ⟨kj_141 hro, fun _ h => absurd h List.not_mem_nil⟩)
-- X.waited: 62 steps
set_option maxRecDepth 1000000 in
theorem kt_188 : jck [kc_3, kc_7] kc_188 kl_188 ks_188 = true := jckq_t (by decide +kernel)
theorem kj_188 {ro : List (List Int32)} (hro : jro ro) : jCok ro jGG kc_188 := jck_ok hro kt_188 (List.forall_mem_cons.mpr ⟨kj_3 hro, List.forall_mem_cons.mpr ⟨kj_7 hro, fun _ h => absurd h List.not_mem_nil⟩⟩)
-- M.waited: 85 steps
set_option maxRecDepth 1000000 in
theorem kt_189 : jck [kc_141] kc_189 kl_189 ks_189 = true := jckq_t (by decide +kernel)
theorem kj_189 {ro : List (List Int32)} (hro : jro ro) : jCok ro jGG kc_189 := jck_ok hro kt_189 (List.forall_mem_cons.mpr ⟨kj_141 hro, fun _ h => absurd h List.not_mem_nil⟩)
-- X.best: 40 steps
set_option maxRecDepth 1000000 in
theorem kt_190 : jck [kc_3, kc_16] kc_190 kl_190 ks_190 = true := jckq_t (by decide +kernel)
theorem kj_190 {ro : List (List Int32)} (hro : jro ro) : jCok ro jGG kc_190 := jck_ok hro kt_190 (List.forall_mem_cons.mpr ⟨kj_3 hro, List.forall_mem_cons.mpr ⟨kj_16 hro, fun _ h => absurd h List.not_mem_nil⟩⟩)
-- M.best: 33 steps
set_option maxRecDepth 1000000 in
theorem kt_191 : jck [kc_137, kc_149] kc_191 kl_191 ks_191 = true := jckq_t (by decide +kernel)
theorem kj_191 {ro : List (List Int32)} (hro : jro ro) : jCok ro jGG kc_191 := jck_ok hro kt_191 (List.forall_mem_cons.mpr ⟨kj_137 hro, List.forall_mem_cons.mpr ⟨kj_149 hro, fun _ h => absurd h List.not_mem_nil⟩⟩)
-- X.bars: 78 steps
set_option maxRecDepth 1000000 in
theorem kt_192 : jck [kc_3, kc_7] kc_192 kl_192 ks_192 = true := jckq_t (by decide +kernel)
theorem kj_192 {ro : List (List Int32)} (hro : jro ro) : jCok ro jGG kc_192 := jck_ok hro kt_192 (List.forall_mem_cons.mpr ⟨kj_3 hro, List.forall_mem_cons.mpr ⟨kj_7 hro, fun _ h => absurd h List.not_mem_nil⟩⟩)
-- M.bars: 89 steps
set_option maxRecDepth 1000000 in
theorem kt_193 : jck [kc_141] kc_193 kl_193 ks_193 = true := jckq_t (by decide +kernel)
theorem kj_193 {ro : List (List Int32)} (hro : jro ro) : jCok ro jGG kc_193 := jck_ok hro kt_193 (List.forall_mem_cons.mpr ⟨kj_141 hro, fun _ h => absurd h List.not_mem_nil⟩)
-- X.led: 63 steps
set_option maxRecDepth 1000000 in
theorem kt_194 : jck [] kc_194 kl_194 ks_194 = true := jckq_t (by decide +kernel)
theorem kj_194 {ro : List (List Int32)} (hro : jro ro) : jCok ro jGG kc_194 := jck_ok hro kt_194 (fun _ h => absurd h List.not_mem_nil)
-- M.led: 77 steps
set_option maxRecDepth 1000000 in
theorem kt_195 : jck [] kc_195 kl_195 ks_195 = true := jckq_t (by decide +kernel)
theorem kj_195 {ro : List (List Int32)} (hro : jro ro) : jCok ro jGG kc_195 := jck_ok hro kt_195 (fun _ h => absurd h List.not_mem_nil)
-- X.hats: 162 steps
set_option maxRecDepth 1000000 in
theorem kt_196 : jck [kc_17, kc_27] kc_196 kl_196 ks_196 = true := jckq_t (by decide +kernel)
theorem kj_196 {ro : List (List Int32)} (hro : jro ro) : jCok ro jGG kc_196 := jck_ok hro kt_196 (List.forall_mem_cons.mpr ⟨kj_17 hro, List.forall_mem_cons.mpr ⟨kj_27 hro, fun _ h => absurd h List.not_mem_nil⟩⟩)
-- M.hats: 106 steps
set_option maxRecDepth 1000000 in
theorem kt_197 : jck [kc_150, kc_158] kc_197 kl_197 ks_197 = true := jckq_t (by decide +kernel)
theorem kj_197 {ro : List (List Int32)} (hro : jro ro) : jCok ro jGG kc_197 := jck_ok hro kt_197 (List.forall_mem_cons.mpr ⟨kj_150 hro, List.forall_mem_cons.mpr ⟨kj_158 hro, fun _ h => absurd h List.not_mem_nil⟩⟩)
-- X.needs: 5 steps
set_option maxRecDepth 1000000 in
theorem kt_198 : jck [kc_4] kc_198 kl_198 ks_198 = true := jckq_t (by decide +kernel)
theorem kj_198 {ro : List (List Int32)} (hro : jro ro) : jCok ro jGG kc_198 := jck_ok hro kt_198 (List.forall_mem_cons.mpr ⟨kj_4 hro, fun _ h => absurd h List.not_mem_nil⟩)
-- M.needs: 24 steps
set_option maxRecDepth 1000000 in
theorem kt_199 : jck [kc_137, kc_90] kc_199 kl_199 ks_199 = true := jckq_t (by decide +kernel)
theorem kj_199 {ro : List (List Int32)} (hro : jro ro) : jCok ro jGG kc_199 := jck_ok hro kt_199 (List.forall_mem_cons.mpr ⟨kj_137 hro, List.forall_mem_cons.mpr ⟨kj_90 hro, fun _ h => absurd h List.not_mem_nil⟩⟩)
-- X.kinds: 184 steps
set_option maxRecDepth 1000000 in
theorem kt_200 : jck [kc_3, kc_5] kc_200 kl_200 ks_200 = true := jckq_t (by decide +kernel)
theorem kj_200 {ro : List (List Int32)} (hro : jro ro) : jCok ro jGG kc_200 := jck_ok hro kt_200 (List.forall_mem_cons.mpr ⟨kj_3 hro, List.forall_mem_cons.mpr ⟨kj_5 hro, fun _ h => absurd h List.not_mem_nil⟩⟩)
