/-! checks of contracts, 16 -/
-- wearsFrom3: 356 steps
set_option maxRecDepth 1000000 in
theorem kt_155 : jck [kc_154] kc_155 kl_155 ks_155 = true := jckq_t (by decide +kernel)
theorem kj_155 {ro : List (List Int32)} (hro : jro ro) : jCok ro jGG kc_155 := jck_ok hro kt_155 (List.forall_mem_cons.mpr ⟨kj_154 hro, fun _ h => absurd h List.not_mem_nil⟩)
-- wearsFrom2: 356 steps
set_option maxRecDepth 1000000 in
theorem kt_156 : jck [kc_155] kc_156 kl_156 ks_156 = true := jckq_t (by decide +kernel)
theorem kj_156 {ro : List (List Int32)} (hro : jro ro) : jCok ro jGG kc_156 := jck_ok hro kt_156 (List.forall_mem_cons.mpr ⟨kj_155 hro, fun _ h => absurd h List.not_mem_nil⟩)
-- wearsFrom1: 356 steps
set_option maxRecDepth 1000000 in
theorem kt_157 : jck [kc_156] kc_157 kl_157 ks_157 = true := jckq_t (by decide +kernel)
theorem kj_157 {ro : List (List Int32)} (hro : jro ro) : jCok ro jGG kc_157 := jck_ok hro kt_157 (List.forall_mem_cons.mpr ⟨kj_156 hro, fun _ h => absurd h List.not_mem_nil⟩)
-- wearsFrom0: 148 steps
set_option maxRecDepth 1000000 in
theorem kt_158 : jck [kc_157] kc_158 kl_158 ks_158 = true := jckq_t (by decide +kernel)
theorem kj_158 {ro : List (List Int32)} (hro : jro ro) : jCok ro jGG kc_158 := jck_ok hro kt_158 (List.forall_mem_cons.mpr ⟨kj_157 hro, fun _ h => absurd h List.not_mem_nil⟩)
-- isKindM: 48 steps
set_option maxRecDepth 1000000 in
theorem kt_159 : jck [] kc_159 kl_159 ks_159 = true := jckq_t (by decide +kernel)
theorem kj_159 {ro : List (List Int32)} (hro : jro ro) : jCok ro jGG kc_159 := jck_ok hro kt_159 (fun _ h => absurd h List.not_mem_nil)
-- doBar: 226 steps
set_option maxRecDepth 1000000 in
theorem kt_160 : jck [kc_90] kc_160 kl_160 ks_160 = true := jckq_t (by decide +kernel)
theorem kj_160 {ro : List (List Int32)} (hro : jro ro) : jCok ro jGG kc_160 := jck_ok hro kt_160 (List.forall_mem_cons.mpr ⟨kj_90 hro, fun _ h => absurd h List.not_mem_nil⟩)
-- isOne: 40 steps
set_option maxRecDepth 1000000 in
theorem kt_161 : jck [] kc_161 kl_161 ks_161 = true := jckq_t (by decide +kernel)
theorem kj_161 {ro : List (List Int32)} (hro : jro ro) : jCok ro jGG kc_161 := jck_ok hro kt_161 (fun _ h => absurd h List.not_mem_nil)
-- canBe: 214 steps
set_option maxRecDepth 1000000 in
theorem kt_162 : jck [] kc_162 kl_162 ks_162 = true := jckq_t (by decide +kernel)
theorem kj_162 {ro : List (List Int32)} (hro : jro ro) : jCok ro jGG kc_162 := jck_ok hro kt_162 (fun _ h => absurd h List.not_mem_nil)
-- whoIs: 36 steps
set_option maxRecDepth 1000000 in
theorem kt_163 : jck [kc_162] kc_163 kl_163 ks_163 = true := jckq_t (by decide +kernel)
theorem kj_163 {ro : List (List Int32)} (hro : jro ro) : jCok ro jGG kc_163 := jck_ok hro kt_163 (List.forall_mem_cons.mpr ⟨kj_162 hro, fun _ h => absurd h List.not_mem_nil⟩)
-- X.person: 86 steps
set_option maxRecDepth 1000000 in
theorem kt_164 : jck [] kc_164 kl_164 ks_164 = true := jckq_t (by decide +kernel)
theorem kj_164 {ro : List (List Int32)} (hro : jro ro) : jCok ro jGG kc_164 := jck_ok hro kt_164 (fun _ h => absurd h List.not_mem_nil)
-- M.person: 108 steps
set_option maxRecDepth 1000000 in
theorem kt_165 : jck [] kc_165 kl_165 ks_165 = true := jckq_t (by decide +kernel)
theorem kj_165 {ro : List (List Int32)} (hro : jro ro) : jCok ro jGG kc_165 := jck_ok hro kt_165 (fun _ h => absurd h List.not_mem_nil)
-- X.people: 250 steps
set_option maxRecDepth 1000000 in
theorem kt_166 : jck [] kc_166 kl_166 ks_166 = true := jckq_t (by decide +kernel)
theorem kj_166 {ro : List (List Int32)} (hro : jro ro) : jCok ro jGG kc_166 := jck_ok hro kt_166 (fun _ h => absurd h List.not_mem_nil)
-- M.people: 1736 steps
set_option maxRecDepth 1000000 in
theorem kt_167 : jck [] kc_167 kl_167 ks_167 = true := jckq_t (by decide +kernel)
theorem kj_167 {ro : List (List Int32)} (hro : jro ro) : jCok ro jGG kc_167 := jck_ok hro kt_167 (fun _ h => absurd h List.not_mem_nil)
-- X.errand: 98 steps
set_option maxRecDepth 1000000 in
theorem kt_168 : jck [] kc_168 kl_168 ks_168 = true := jckq_t (by decide +kernel)
theorem kj_168 {ro : List (List Int32)} (hro : jro ro) : jCok ro jGG kc_168 := jck_ok hro kt_168 (fun _ h => absurd h List.not_mem_nil)
