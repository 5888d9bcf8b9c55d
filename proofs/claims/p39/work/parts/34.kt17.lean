/-! checks of contracts, 17 -/
-- M.errand: 126 steps
set_option maxRecDepth 1000000 in
theorem kt_169 : jck [] kc_169 kl_169 ks_169 = true := by decide +kernel
theorem kj_169 {ro : List (List Int32)} (hro : jro ro) : jCok ro jGG kc_169 := jck_ok hro kt_169 (fun _ h => absurd h List.not_mem_nil)
-- X.clear: 41 steps
set_option maxRecDepth 1000000 in
theorem kt_170 : jck [] kc_170 kl_170 ks_170 = true := by decide +kernel
theorem kj_170 {ro : List (List Int32)} (hro : jro ro) : jCok ro jGG kc_170 := jck_ok hro kt_170 (fun _ h => absurd h List.not_mem_nil)
-- M.clear: 49 steps
set_option maxRecDepth 1000000 in
theorem kt_171 : jck [] kc_171 kl_171 ks_171 = true := by decide +kernel
theorem kj_171 {ro : List (List Int32)} (hro : jro ro) : jCok ro jGG kc_171 := jck_ok hro kt_171 (fun _ h => absurd h List.not_mem_nil)
-- X.hat: 109 steps
set_option maxRecDepth 1000000 in
theorem kt_172 : jck [] kc_172 kl_172 ks_172 = true := by decide +kernel
theorem kj_172 {ro : List (List Int32)} (hro : jro ro) : jCok ro jGG kc_172 := jck_ok hro kt_172 (fun _ h => absurd h List.not_mem_nil)
-- M.hat: 124 steps
set_option maxRecDepth 1000000 in
theorem kt_173 : jck [] kc_173 kl_173 ks_173 = true := by decide +kernel
theorem kj_173 {ro : List (List Int32)} (hro : jro ro) : jCok ro jGG kc_173 := jck_ok hro kt_173 (fun _ h => absurd h List.not_mem_nil)
-- X.mend: 1190 steps
set_option maxRecDepth 1000000 in
theorem kt_174 : jck [] kc_174 kl_174 ks_174 = true := by decide +kernel
theorem kj_174 {ro : List (List Int32)} (hro : jro ro) : jCok ro jGG kc_174 := jck_ok hro kt_174 (fun _ h => absurd h List.not_mem_nil)
-- M.mend: 976 steps
set_option maxRecDepth 1000000 in
theorem kt_175 : jci jRR [] 190 2 [.inl (.ref 66), .inr (0, (-2147483648), 2147483647), .inr (0, (-2147483648), 2147483647), .inr (0, (-2147483648), 2147483647)] 0 kl_175 ks_175 = true := by decide +kernel
-- X.of: 272 steps
set_option maxRecDepth 1000000 in
theorem kt_176 : jck [] kc_176 kl_176 ks_176 = true := by decide +kernel
theorem kj_176 {ro : List (List Int32)} (hro : jro ro) : jCok ro jGG kc_176 := jck_ok hro kt_176 (fun _ h => absurd h List.not_mem_nil)
-- M.of: 277 steps
set_option maxRecDepth 1000000 in
theorem kt_177 : jck [kc_139] kc_177 kl_177 ks_177 = true := by decide +kernel
theorem kj_177 {ro : List (List Int32)} (hro : jro ro) : jCok ro jGG kc_177 := jck_ok hro kt_177 (List.forall_mem_cons.mpr ⟨kj_139 hro, fun _ h => absurd h List.not_mem_nil⟩)
-- X.feed: 36 steps
set_option maxRecDepth 1000000 in
theorem kt_178 : jck [] kc_178 kl_178 ks_178 = true := by decide +kernel
theorem kj_178 {ro : List (List Int32)} (hro : jro ro) : jCok ro jGG kc_178 := jck_ok hro kt_178 (fun _ h => absurd h List.not_mem_nil)
-- M.feed: 48 steps
set_option maxRecDepth 1000000 in
theorem kt_179 : jck [] kc_179 kl_179 ks_179 = true := by decide +kernel
theorem kj_179 {ro : List (List Int32)} (hro : jro ro) : jCok ro jGG kc_179 := jck_ok hro kt_179 (fun _ h => absurd h List.not_mem_nil)
-- X.law: 188 steps
set_option maxRecDepth 1000000 in
theorem kt_180 : jck [kc_86, kc_87] kc_180 kl_180 ks_180 = true := by decide +kernel
theorem kj_180 {ro : List (List Int32)} (hro : jro ro) : jCok ro jGG kc_180 := jck_ok hro kt_180 (List.forall_mem_cons.mpr ⟨kj_86 hro, List.forall_mem_cons.mpr ⟨kj_87 hro, fun _ h => absurd h List.not_mem_nil⟩⟩)
-- M.law: 40 steps
set_option maxRecDepth 1000000 in
theorem kt_181 : jck [kc_134] kc_181 kl_181 ks_181 = true := by decide +kernel
theorem kj_181 {ro : List (List Int32)} (hro : jro ro) : jCok ro jGG kc_181 := jck_ok hro kt_181 (List.forall_mem_cons.mpr ⟨kj_134 hro, fun _ h => absurd h List.not_mem_nil⟩)
-- X.alike: 89 steps
set_option maxRecDepth 1000000 in
theorem kt_182 : jck [kc_1] kc_182 kl_182 ks_182 = true := by decide +kernel
theorem kj_182 {ro : List (List Int32)} (hro : jro ro) : jCok ro jGG kc_182 := jck_ok hro kt_182 (List.forall_mem_cons.mpr ⟨kj_1 hro, fun _ h => absurd h List.not_mem_nil⟩)
-- M.alike: 113 steps
set_option maxRecDepth 1000000 in
theorem kt_183 : jck [kc_136] kc_183 kl_183 ks_183 = true := by decide +kernel
theorem kj_183 {ro : List (List Int32)} (hro : jro ro) : jCok ro jGG kc_183 := jck_ok hro kt_183 (List.forall_mem_cons.mpr ⟨kj_136 hro, fun _ h => absurd h List.not_mem_nil⟩)
-- X.plan: 79 steps
set_option maxRecDepth 1000000 in
theorem kt_184 : jck [kc_3, kc_7] kc_184 kl_184 ks_184 = true := by decide +kernel
theorem kj_184 {ro : List (List Int32)} (hro : jro ro) : jCok ro jGG kc_184 := jck_ok hro kt_184 (List.forall_mem_cons.mpr ⟨kj_3 hro, List.forall_mem_cons.mpr ⟨kj_7 hro, fun _ h => absurd h List.not_mem_nil⟩⟩)
-- M.plan: 105 steps
set_option maxRecDepth 1000000 in
theorem kt_185 : jck [kc_141] kc_185 kl_185 ks_185 = true := by decide +kernel
theorem kj_185 {ro : List (List Int32)} (hro : jro ro) : jCok ro jGG kc_185 := jck_ok hro kt_185 (List.forall_mem_cons.mpr ⟨kj_141 hro, fun _ h => absurd h List.not_mem_nil⟩)
-- X.where: 87 steps
set_option maxRecDepth 1000000 in
theorem kt_186 : jck [kc_3, kc_7] kc_186 kl_186 ks_186 = true := by decide +kernel
theorem kj_186 {ro : List (List Int32)} (hro : jro ro) : jCok ro jGG kc_186 := jck_ok hro kt_186 (List.forall_mem_cons.mpr ⟨kj_3 hro, List.forall_mem_cons.mpr ⟨kj_7 hro, fun _ h => absurd h List.not_mem_nil⟩⟩)
-- M.where: 76 steps
set_option maxRecDepth 1000000 in
theorem kt_187 : jck [kc_141] kc_187 kl_187 ks_187 = true := by decide +kernel
theorem kj_187 {ro : List (List Int32)} (hro : jro ro) : jCok ro jGG kc_187 := jck_ok hro kt_187 (List.forall_mem_cons.mpr ⟨kj_141 hro, fun _ h => absurd h List.not_mem_nil⟩)
