/-! checks of contracts, 8 -/
-- wearsFrom0: 148 steps
set_option maxRecDepth 1000000 in
theorem kt_158 : jck [kc_157] kc_158 kl_158 ks_158 = true := jckq_t (by decide +kernel)
theorem kj_158 {ro : List (List Int32)} (hro : jro ro) : jCok ro jGG kc_158 := jck_ok hro kt_158 (List.forall_mem_cons.mpr ⟨kj_157 hro, fun _ h => absurd h List.not_mem_nil⟩)
-- isKindM: 48 steps
set_option maxRecDepth 1000000 in
theorem kt_159 : jck [] kc_159 kl_159 ks_159 = true := jckq_t (by decide +kernel)
theorem kj_159 {ro : List (List Int32)} (hro : jro ro) : jCok ro jGG kc_159 := jck_ok hro kt_159 (fun _ h => absurd h List.not_mem_nil)
-- doBar: 226 steps
set_option maxRecDepth 1000000 in
theorem kt_160 : jck [kc_90] kc_160 kl_160 ks_160 = true := jckq_t (by decide +kernel)
theorem kj_160 {ro : List (List Int32)} (hro : jro ro) : jCok ro jGG kc_160 := jck_ok hro kt_160 (List.forall_mem_cons.mpr ⟨kj_90 hro, fun _ h => absurd h List.not_mem_nil⟩)
-- isOne: 40 steps
set_option maxRecDepth 1000000 in
theorem kt_161 : jck [] kc_161 kl_161 ks_161 = true := jckq_t (by decide +kernel)
theorem kj_161 {ro : List (List Int32)} (hro : jro ro) : jCok ro jGG kc_161 := jck_ok hro kt_161 (fun _ h => absurd h List.not_mem_nil)
-- canBe: 214 steps
set_option maxRecDepth 1000000 in
theorem kt_162 : jck [] kc_162 kl_162 ks_162 = true := jckq_t (by decide +kernel)
theorem kj_162 {ro : List (List Int32)} (hro : jro ro) : jCok ro jGG kc_162 := jck_ok hro kt_162 (fun _ h => absurd h List.not_mem_nil)
-- whoIs: 36 steps
set_option maxRecDepth 1000000 in
theorem kt_163 : jck [kc_162] kc_163 kl_163 ks_163 = true := jckq_t (by decide +kernel)
theorem kj_163 {ro : List (List Int32)} (hro : jro ro) : jCok ro jGG kc_163 := jck_ok hro kt_163 (List.forall_mem_cons.mpr ⟨kj_162 hro, fun _ h => absurd h List.not_mem_nil⟩)
-- X.person: 86 steps
set_option maxRecDepth 1000000 in
theorem kt_164 : jck [] kc_164 kl_164 ks_164 = true := jckq_t (by decide +kernel)
theorem kj_164 {ro : List (List Int32)} (hro : jro ro) : jCok ro jGG kc_164 := jck_ok hro kt_164 (fun _ h => absurd h List.not_mem_nil)
-- M.person: 108 steps
set_option maxRecDepth 1000000 in
theorem kt_165 : jck [] kc_165 kl_165 ks_165 = true := jckq_t (by decide +kernel)
theorem kj_165 {ro : List (List Int32)} (hro : jro ro) : jCok ro jGG kc_165 := jck_ok hro kt_165 (fun _ h => absurd h List.not_mem_nil)
-- X.people: 250 steps
set_option maxRecDepth 1000000 in
theorem kt_166 : jck [] kc_166 kl_166 ks_166 = true := jckq_t (by decide +kernel)
theorem kj_166 {ro : List (List Int32)} (hro : jro ro) : jCok ro jGG kc_166 := jck_ok hro kt_166 (fun _ h => absurd h List.not_mem_nil)
-- M.people: 1736 steps
set_option maxRecDepth 1000000 in
theorem kt_167 : jck [] kc_167 kl_167 ks_167 = true := jckq_t (by decide +kernel)
theorem kj_167 {ro : List (List Int32)} (hro : jro ro) : jCok ro jGG kc_167 := jck_ok hro kt_167 (fun _ h => absurd h List.not_mem_nil)
-- X.errand: 98 steps
set_option maxRecDepth 1000000 in
theorem kt_168 : jck [] kc_168 kl_168 ks_168 = true := jckq_t (by decide +kernel)
theorem kj_168 {ro : List (List Int32)} (hro : jro ro) : jCok ro jGG kc_168 := jck_ok hro kt_168 (fun _ h => absurd h List.not_mem_nil)
-- M.errand: 126 steps
set_option maxRecDepth 1000000 in
theorem kt_169 : jck [] kc_169 kl_169 ks_169 = true := jckq_t (by decide +kernel)
theorem kj_169 {ro : List (List Int32)} (hro : jro ro) : jCok ro jGG kc_169 := jck_ok hro kt_169 (fun _ h => absurd h List.not_mem_nil)
-- X.clear: 41 steps
set_option maxRecDepth 1000000 in
theorem kt_170 : jck [] kc_170 kl_170 ks_170 = true := jckq_t (by decide +kernel)
theorem kj_170 {ro : List (List Int32)} (hro : jro ro) : jCok ro jGG kc_170 := jck_ok hro kt_170 (fun _ h => absurd h List.not_mem_nil)
-- M.clear: 49 steps
set_option maxRecDepth 1000000 in
theorem kt_171 : jck [] kc_171 kl_171 ks_171 = true := jckq_t (by decide +kernel)
theorem kj_171 {ro : List (List Int32)} (hro : jro ro) : jCok ro jGG kc_171 := jck_ok hro kt_171 (fun _ h => absurd h List.not_mem_nil)
-- X.hat: 109 steps
set_option maxRecDepth 1000000 in
theorem kt_172 : jck [] kc_172 kl_172 ks_172 = true := jckq_t (by decide +kernel)
theorem kj_172 {ro : List (List Int32)} (hro : jro ro) : jCok ro jGG kc_172 := jck_ok hro kt_172 (fun _ h => absurd h List.not_mem_nil)
-- M.hat: 124 steps
set_option maxRecDepth 1000000 in
theorem kt_173 : jck [] kc_173 kl_173 ks_173 = true := jckq_t (by decide +kernel)
theorem kj_173 {ro : List (List Int32)} (hro : jro ro) : jCok ro jGG kc_173 := jck_ok hro kt_173 (fun _ h => absurd h List.not_mem_nil)
-- X.mend: 1190 steps
set_option maxRecDepth 1000000 in
theorem kt_174 : jck [] kc_174 kl_174 ks_174 = true := jckq_t (by decide +kernel)
theorem kj_174 {ro : List (List Int32)} (hro : jro ro) : jCok ro jGG kc_174 := jck_ok hro kt_174 (fun _ h => absurd h List.not_mem_nil)
-- X.of: 272 steps
set_option maxRecDepth 1000000 in
theorem kt_176 : jck [] kc_176 kl_176 ks_176 = true := jckq_t (by decide +kernel)
theorem kj_176 {ro : List (List Int32)} (hro : jro ro) : jCok ro jGG kc_176 := jck_ok hro kt_176 (fun _ h => absurd h List.not_mem_nil)
-- M.of: 277 steps
set_option maxRecDepth 1000000 in
theorem kt_177 : jck [kc_139] kc_177 kl_177 ks_177 = true := jckq_t (by decide +kernel)
theorem kj_177 {ro : List (List Int32)} (hro : jro ro) : jCok ro jGG kc_177 := jck_ok hro kt_177 (List.forall_mem_cons.mpr ⟨kj_139 hro, fun _ h => absurd h List.not_mem_nil⟩)
-- X.feed: 36 steps
set_option maxRecDepth 1000000 in
theorem kt_178 : jck [] kc_178 kl_178 ks_178 = true := jckq_t (by decide +kernel)
theorem kj_178 {ro : List (List Int32)} (hro : jro ro) : jCok ro jGG kc_178 := jck_ok hro kt_178 (fun _ h => absurd h List.not_mem_nil)
-- M.feed: 48 steps
set_option maxRecDepth 1000000 in
theorem kt_179 : jck [] kc_179 kl_179 ks_179 = true := jckq_t (by decide +kernel)
theorem kj_179 {ro : List (List Int32)} (hro : jro ro) : jCok ro jGG kc_179 := jck_ok hro kt_179 (fun _ h => absurd h List.not_mem_nil)
-- X.law: 188 steps
set_option maxRecDepth 1000000 in
theorem kt_180 : jck [kc_86, kc_87] kc_180 kl_180 ks_180 = true := jckq_t (by decide +kernel)
theorem kj_180 {ro : List (List Int32)} (hro : jro ro) : jCok ro jGG kc_180 := jck_ok hro kt_180 (List.forall_mem_cons.mpr ⟨kj_86 hro, List.forall_mem_cons.mpr ⟨kj_87 hro, fun _ h => absurd h List.not_mem_nil⟩⟩)
-- M.law: 40 steps
set_option maxRecDepth 1000000 in
theorem kt_181 : jck [kc_134] kc_181 kl_181 ks_181 = true := jckq_t (by decide +kernel)
theorem kj_181 {ro : List (List Int32)} (hro : jro ro) : jCok ro jGG kc_181 := jck_ok hro kt_181 (List.forall_mem_cons.mpr ⟨kj_134 hro, fun _ h => absurd h List.not_mem_nil⟩)
-- X.alike: 89 steps
set_option maxRecDepth 1000000 in
theorem kt_182 : jck [kc_1] kc_182 kl_182 ks_182 = true := jckq_t (by decide +kernel)
theorem kj_182 {ro : List (List Int32)} (hro : jro ro) : jCok ro jGG kc_182 := jck_ok hro kt_182 (List.forall_mem_cons.mpr ⟨kj_1 hro, fun _ h => absurd h List.not_mem_nil⟩)
-- M.alike: 113 steps
set_option maxRecDepth 1000000 in
theorem kt_183 : jck [kc_136] kc_183 kl_183 ks_183 = true := jckq_t (by decide +kernel)
theorem kj_183 {ro : List (List Int32)} (hro : jro ro) : jCok ro jGG kc_183 := jck_ok hro kt_183 (List.forall_mem_cons.mpr ⟨kj_136 hro, fun _ h => absurd h List.not_mem_nil⟩)
-- X.plan: 79 steps
set_option maxRecDepth 1000000 in
theorem kt_184 : jck [kc_3, kc_7] kc_184 kl_184 ks_184 = true := jckq_t (by decide +kernel)
theorem kj_184 {ro : List (List Int32)} (hro : jro ro) : jCok ro jGG kc_184 := jck_ok hro kt_184 (List.forall_mem_cons.mpr ⟨kj_3 hro, List.forall_mem_cons.mpr ⟨kj_7 hro, fun _ h => absurd h List.not_mem_nil⟩⟩)
-- M.plan: 105 steps
set_option maxRecDepth 1000000 in
theorem kt_185 : jck [kc_141] kc_185 kl_185 ks_185 = true := jckq_t (by decide +kernel)
theorem kj_185 {ro : List (List Int32)} (hro : jro ro) : jCok ro jGG kc_185 := jck_ok hro kt_185 (List.forall_mem_cons.mpr ⟨kj_141 hro, fun _ h => absurd h List.not_mem_nil⟩)
-- X.where: 87 steps
set_option maxRecDepth 1000000 in
theorem kt_186 : jck [kc_3, kc_7] kc_186 kl_186 ks_186 = true := jckq_t (by decide +kernel)
theorem kj_186 {ro : List (List Int32)} (hro : jro ro) : jCok ro jGG kc_186 := jck_ok hro kt_186 (List.forall_mem_cons.mpr ⟨kj_3 hro, List.forall_mem_cons.mpr ⟨kj_7 hro, fun _ h => absurd h List.not_mem_nil⟩⟩)
-- M.where: 76 steps
set_option maxRecDepth 1000000 in
theorem kt_187 : jck [kc_141] kc_187 kl_187 ks_187 = true := jckq_t (by decide +kernel)
theorem kj_187 {ro : List (List Int32)} (hro : jro ro) : jCok ro jGG kc_187 := jck_ok hro kt_187 (List.forall_mem_cons.mpr ⟨kj_141 hro, fun _ h => absurd h List.not_mem_nil⟩)
-- X.waited: 62 steps
set_option maxRecDepth 1000000 in
theorem kt_188 : jck [kc_3, kc_7] kc_188 kl_188 ks_188 = true := jckq_t (by decide +kernel)
theorem kj_188 {ro : List (List Int32)} (hro : jro ro) : jCok ro jGG kc_188 := jck_ok hro kt_188 (List.forall_mem_cons.mpr ⟨kj_3 hro, List.forall_mem_cons.mpr ⟨kj_7 hro, fun _ h => absurd h List.not_mem_nil⟩⟩)
-- M.waited: 85 steps
set_option maxRecDepth 1000000 in
theorem kt_189 : jck [kc_141] kc_189 kl_189 ks_189 = true := jckq_t (by decide +kernel)
theorem kj_189 {ro : List (List Int32)} (hro : jro ro) : jCok ro jGG kc_189 := jck_ok hro kt_189 (List.forall_mem_cons.mpr ⟨kj_141 hro, fun _ h => absurd h List.not_mem_nil⟩)
-- X.best: 40 steps
set_option maxRecDepth 1000000 in
theorem kt_190 : jck [kc_3, kc_16] kc_190 kl_190 ks_190 = true := jckq_t (by decide +kernel)
theorem kj_190 {ro : List (List Int32)} (hro : jro ro) : jCok ro jGG kc_190 := jck_ok hro kt_190 (List.forall_mem_cons.mpr ⟨kj_3 hro, List.forall_mem_cons.mpr ⟨kj_16 hro, fun _ h => absurd h List.not_mem_nil⟩⟩)
-- M.best: 33 steps
set_option maxRecDepth 1000000 in
theorem kt_191 : jck [kc_137, kc_149] kc_191 kl_191 ks_191 = true := jckq_t (by decide +kernel)
theorem kj_191 {ro : List (List Int32)} (hro : jro ro) : jCok ro jGG kc_191 := jck_ok hro kt_191 (List.forall_mem_cons.mpr ⟨kj_137 hro, List.forall_mem_cons.mpr ⟨kj_149 hro, fun _ h => absurd h List.not_mem_nil⟩⟩)
-- X.bars: 78 steps
set_option maxRecDepth 1000000 in
theorem kt_192 : jck [kc_3, kc_7] kc_192 kl_192 ks_192 = true := jckq_t (by decide +kernel)
theorem kj_192 {ro : List (List Int32)} (hro : jro ro) : jCok ro jGG kc_192 := jck_ok hro kt_192 (List.forall_mem_cons.mpr ⟨kj_3 hro, List.forall_mem_cons.mpr ⟨kj_7 hro, fun _ h => absurd h List.not_mem_nil⟩⟩)
-- M.bars: 89 steps
set_option maxRecDepth 1000000 in
theorem kt_193 : jck [kc_141] kc_193 kl_193 ks_193 = true := jckq_t (by decide +kernel)
theorem kj_193 {ro : List (List Int32)} (hro : jro ro) : jCok ro jGG kc_193 := jck_ok hro kt_193 (List.forall_mem_cons.mpr ⟨kj_141 hro, fun _ h => absurd h List.not_mem_nil⟩)
-- X.led: 63 steps
set_option maxRecDepth 1000000 in
theorem kt_194 : jck [] kc_194 kl_194 ks_194 = true := jckq_t (by decide +kernel)
theorem kj_194 {ro : List (List Int32)} (hro : jro ro) : jCok ro jGG kc_194 := jck_ok hro kt_194 (fun _ h => absurd h List.not_mem_nil)
-- M.led: 77 steps
set_option maxRecDepth 1000000 in
theorem kt_195 : jck [] kc_195 kl_195 ks_195 = true := jckq_t (by decide +kernel)
theorem kj_195 {ro : List (List Int32)} (hro : jro ro) : jCok ro jGG kc_195 := jck_ok hro kt_195 (fun _ h => absurd h List.not_mem_nil)
-- X.hats: 162 steps
set_option maxRecDepth 1000000 in
theorem kt_196 : jck [kc_17, kc_27] kc_196 kl_196 ks_196 = true := jckq_t (by decide +kernel)
theorem kj_196 {ro : List (List Int32)} (hro : jro ro) : jCok ro jGG kc_196 := jck_ok hro kt_196 (List.forall_mem_cons.mpr ⟨kj_17 hro, List.forall_mem_cons.mpr ⟨kj_27 hro, fun _ h => absurd h List.not_mem_nil⟩⟩)
-- M.hats: 106 steps
set_option maxRecDepth 1000000 in
theorem kt_197 : jck [kc_150, kc_158] kc_197 kl_197 ks_197 = true := jckq_t (by decide +kernel)
theorem kj_197 {ro : List (List Int32)} (hro : jro ro) : jCok ro jGG kc_197 := jck_ok hro kt_197 (List.forall_mem_cons.mpr ⟨kj_150 hro, List.forall_mem_cons.mpr ⟨kj_158 hro, fun _ h => absurd h List.not_mem_nil⟩⟩)
-- X.needs: 5 steps
set_option maxRecDepth 1000000 in
theorem kt_198 : jck [kc_4] kc_198 kl_198 ks_198 = true := jckq_t (by decide +kernel)
theorem kj_198 {ro : List (List Int32)} (hro : jro ro) : jCok ro jGG kc_198 := jck_ok hro kt_198 (List.forall_mem_cons.mpr ⟨kj_4 hro, fun _ h => absurd h List.not_mem_nil⟩)
-- M.needs: 24 steps
set_option maxRecDepth 1000000 in
theorem kt_199 : jck [kc_137, kc_90] kc_199 kl_199 ks_199 = true := jckq_t (by decide +kernel)
theorem kj_199 {ro : List (List Int32)} (hro : jro ro) : jCok ro jGG kc_199 := jck_ok hro kt_199 (List.forall_mem_cons.mpr ⟨kj_137 hro, List.forall_mem_cons.mpr ⟨kj_90 hro, fun _ h => absurd h List.not_mem_nil⟩⟩)
-- X.kinds: 184 steps
set_option maxRecDepth 1000000 in
theorem kt_200 : jck [kc_3, kc_5] kc_200 kl_200 ks_200 = true := jckq_t (by decide +kernel)
theorem kj_200 {ro : List (List Int32)} (hro : jro ro) : jCok ro jGG kc_200 := jck_ok hro kt_200 (List.forall_mem_cons.mpr ⟨kj_3 hro, List.forall_mem_cons.mpr ⟨kj_5 hro, fun _ h => absurd h List.not_mem_nil⟩⟩)
-- M.kinds: 69 steps
set_option maxRecDepth 1000000 in
theorem kt_201 : jck [kc_137, kc_90, kc_159] kc_201 kl_201 ks_201 = true := jckq_t (by decide +kernel)
theorem kj_201 {ro : List (List Int32)} (hro : jro ro) : jCok ro jGG kc_201 := jck_ok hro kt_201 (List.forall_mem_cons.mpr ⟨kj_137 hro, List.forall_mem_cons.mpr ⟨kj_90 hro, List.forall_mem_cons.mpr ⟨kj_159 hro, fun _ h => absurd h List.not_mem_nil⟩⟩⟩)
-- X.pass: 167 steps
set_option maxRecDepth 1000000 in
theorem kt_202 : jck [kc_2] kc_202 kl_202 ks_202 = true := jckq_t (by decide +kernel)
theorem kj_202 {ro : List (List Int32)} (hro : jro ro) : jCok ro jGG kc_202 := jck_ok hro kt_202 (List.forall_mem_cons.mpr ⟨kj_2 hro, fun _ h => absurd h List.not_mem_nil⟩)
-- M.pass: 343 steps
set_option maxRecDepth 1000000 in
theorem kt_203 : jck [kc_135] kc_203 kl_203 ks_203 = true := jckq_t (by decide +kernel)
theorem kj_203 {ro : List (List Int32)} (hro : jro ro) : jCok ro jGG kc_203 := jck_ok hro kt_203 (List.forall_mem_cons.mpr ⟨kj_135 hro, fun _ h => absurd h List.not_mem_nil⟩)
-- X.go: 97 steps
set_option maxRecDepth 1000000 in
theorem kt_204 : jck [] kc_204 kl_204 ks_204 = true := jckq_t (by decide +kernel)
theorem kj_204 {ro : List (List Int32)} (hro : jro ro) : jCok ro jGG kc_204 := jck_ok hro kt_204 (fun _ h => absurd h List.not_mem_nil)
-- M.go: 114 steps
set_option maxRecDepth 1000000 in
theorem kt_205 : jck [] kc_205 kl_205 ks_205 = true := jckq_t (by decide +kernel)
theorem kj_205 {ro : List (List Int32)} (hro : jro ro) : jCok ro jGG kc_205 := jck_ok hro kt_205 (fun _ h => absurd h List.not_mem_nil)
def kc_206p : jC := (150, 6, [.inl (.ref 0), .inr (0, (-2147483648), 2147483647)], [], [(20, 4), (23, 9999), (24, 9999), (33, 9999)], [(some (0, (-2147483648), 2147483647), [])])
-- X.judge: 67 steps
set_option maxRecDepth 1000000 in
theorem kt_206 : jck [kc_3, kc_42] kc_206p kl_206 ks_206 = true := jckq_t (by decide +kernel)
theorem kj_206 {ro : List (List Int32)} (hro : jro ro) : jCok ro jGG kc_206p := jck_ok hro kt_206 (List.forall_mem_cons.mpr ⟨kj_3 hro, List.forall_mem_cons.mpr ⟨kj_42 hro, fun _ h => absurd h List.not_mem_nil⟩⟩)
-- M.judge: 114 steps
set_option maxRecDepth 1000000 in
theorem kt_207 : jck [kc_137] kc_207 kl_207 ks_207 = true := jckq_t (by decide +kernel)
theorem kj_207 {ro : List (List Int32)} (hro : jro ro) : jCok ro jGG kc_207 := jck_ok hro kt_207 (List.forall_mem_cons.mpr ⟨kj_137 hro, fun _ h => absurd h List.not_mem_nil⟩)
-- X.watch: 195 steps
set_option maxRecDepth 1000000 in
theorem kt_208 : jck [] kc_208 kl_208 ks_208 = true := jckq_t (by decide +kernel)
theorem kj_208 {ro : List (List Int32)} (hro : jro ro) : jCok ro jGG kc_208 := jck_ok hro kt_208 (fun _ h => absurd h List.not_mem_nil)
-- M.watch: 217 steps
set_option maxRecDepth 1000000 in
theorem kt_209 : jck [] kc_209 kl_209 ks_209 = true := jckq_t (by decide +kernel)
theorem kj_209 {ro : List (List Int32)} (hro : jro ro) : jCok ro jGG kc_209 := jck_ok hro kt_209 (fun _ h => absurd h List.not_mem_nil)
-- X.sight: 101 steps
set_option maxRecDepth 1000000 in
theorem kt_210 : jck [] kc_210 kl_210 ks_210 = true := jckq_t (by decide +kernel)
theorem kj_210 {ro : List (List Int32)} (hro : jro ro) : jCok ro jGG kc_210 := jck_ok hro kt_210 (fun _ h => absurd h List.not_mem_nil)
-- M.sight: 99 steps
set_option maxRecDepth 1000000 in
theorem kt_211 : jck [] kc_211 kl_211 ks_211 = true := jckq_t (by decide +kernel)
theorem kj_211 {ro : List (List Int32)} (hro : jro ro) : jCok ro jGG kc_211 := jck_ok hro kt_211 (fun _ h => absurd h List.not_mem_nil)
-- X.atLeast: 70 steps
set_option maxRecDepth 1000000 in
theorem kt_212 : jck [kc_30, kc_41] kc_212 kl_212 ks_212 = true := jckq_t (by decide +kernel)
theorem kj_212 {ro : List (List Int32)} (hro : jro ro) : jCok ro jGG kc_212 := jck_ok hro kt_212 (List.forall_mem_cons.mpr ⟨kj_30 hro, List.forall_mem_cons.mpr ⟨kj_41 hro, fun _ h => absurd h List.not_mem_nil⟩⟩)
-- M.atLeast: 215 steps
set_option maxRecDepth 1000000 in
theorem kt_213 : jck [kc_160, kc_161] kc_213 kl_213 ks_213 = true := jckq_t (by decide +kernel)
theorem kj_213 {ro : List (List Int32)} (hro : jro ro) : jCok ro jGG kc_213 := jck_ok hro kt_213 (List.forall_mem_cons.mpr ⟨kj_160 hro, List.forall_mem_cons.mpr ⟨kj_161 hro, fun _ h => absurd h List.not_mem_nil⟩⟩)
-- X.who: 29 steps
set_option maxRecDepth 1000000 in
theorem kt_214 : jck [kc_29] kc_214 kl_214 ks_214 = true := jckq_t (by decide +kernel)
theorem kj_214 {ro : List (List Int32)} (hro : jro ro) : jCok ro jGG kc_214 := jck_ok hro kt_214 (List.forall_mem_cons.mpr ⟨kj_29 hro, fun _ h => absurd h List.not_mem_nil⟩)
-- M.who: 36 steps
set_option maxRecDepth 1000000 in
theorem kt_215 : jck [kc_163] kc_215 kl_215 ks_215 = true := jckq_t (by decide +kernel)
theorem kj_215 {ro : List (List Int32)} (hro : jro ro) : jCok ro jGG kc_215 := jck_ok hro kt_215 (List.forall_mem_cons.mpr ⟨kj_163 hro, fun _ h => absurd h List.not_mem_nil⟩)
-- X.gone: 137 steps
set_option maxRecDepth 1000000 in
theorem kt_216 : jck [kc_29, kc_3] kc_216 kl_216 ks_216 = true := jckq_t (by decide +kernel)
theorem kj_216 {ro : List (List Int32)} (hro : jro ro) : jCok ro jGG kc_216 := jck_ok hro kt_216 (List.forall_mem_cons.mpr ⟨kj_29 hro, List.forall_mem_cons.mpr ⟨kj_3 hro, fun _ h => absurd h List.not_mem_nil⟩⟩)
