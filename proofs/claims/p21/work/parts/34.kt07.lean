/-! checks of contracts, 7 -/
-- sums0: 1498 steps
set_option maxRecDepth 1000000 in
theorem kt_130 : jck [kc_129] kc_130 kl_130 ks_130 = true := jckq_t (by decide +kernel)
theorem kj_130 {ro : List (List Int32)} (hro : jro ro) : jCok ro jGG kc_130 := jck_ok hro kt_130 (List.forall_mem_cons.mpr ⟨kj_129 hro, fun _ h => absurd h List.not_mem_nil⟩)
-- compared0: 170 steps
set_option maxRecDepth 1000000 in
theorem kt_131 : jck [kc_130, kc_91] kc_131 kl_131 ks_131 = true := jckq_t (by decide +kernel)
theorem kj_131 {ro : List (List Int32)} (hro : jro ro) : jCok ro jGG kc_131 := jck_ok hro kt_131 (List.forall_mem_cons.mpr ⟨kj_130 hro, List.forall_mem_cons.mpr ⟨kj_91 hro, fun _ h => absurd h List.not_mem_nil⟩⟩)
-- both0: 446 steps
set_option maxRecDepth 1000000 in
theorem kt_132 : jck [kc_131, kc_91] kc_132 kl_132 ks_132 = true := jckq_t (by decide +kernel)
theorem kj_132 {ro : List (List Int32)} (hro : jro ro) : jCok ro jGG kc_132 := jck_ok hro kt_132 (List.forall_mem_cons.mpr ⟨kj_131 hro, List.forall_mem_cons.mpr ⟨kj_91 hro, fun _ h => absurd h List.not_mem_nil⟩⟩)
-- either0: 336 steps
set_option maxRecDepth 1000000 in
theorem kt_133 : jck [kc_132, kc_91] kc_133 kl_133 ks_133 = true := jckq_t (by decide +kernel)
theorem kj_133 {ro : List (List Int32)} (hro : jro ro) : jCok ro jGG kc_133 := jck_ok hro kt_133 (List.forall_mem_cons.mpr ⟨kj_132 hro, List.forall_mem_cons.mpr ⟨kj_91 hro, fun _ h => absurd h List.not_mem_nil⟩⟩)
-- workOut: 1453 steps
set_option maxRecDepth 1000000 in
theorem kt_134 : jck [kc_133, kc_91] kc_134 kl_134 ks_134 = true := jckq_t (by decide +kernel)
theorem kj_134 {ro : List (List Int32)} (hro : jro ro) : jCok ro jGG kc_134 := jck_ok hro kt_134 (List.forall_mem_cons.mpr ⟨kj_133 hro, List.forall_mem_cons.mpr ⟨kj_91 hro, fun _ h => absurd h List.not_mem_nil⟩⟩)
-- areAlike: 116 steps
set_option maxRecDepth 1000000 in
theorem kt_135 : jck [kc_90, kc_134] kc_135 kl_135 ks_135 = true := jckq_t (by decide +kernel)
theorem kj_135 {ro : List (List Int32)} (hro : jro ro) : jCok ro jGG kc_135 := jck_ok hro kt_135 (List.forall_mem_cons.mpr ⟨kj_90 hro, List.forall_mem_cons.mpr ⟨kj_134 hro, fun _ h => absurd h List.not_mem_nil⟩⟩)
-- isAlike: 180 steps
set_option maxRecDepth 1000000 in
theorem kt_136 : jck [kc_135] kc_136 kl_136 ks_136 = true := jckq_t (by decide +kernel)
theorem kj_136 {ro : List (List Int32)} (hro : jro ro) : jCok ro jGG kc_136 := jck_ok hro kt_136 (List.forall_mem_cons.mpr ⟨kj_135 hro, fun _ h => absurd h List.not_mem_nil⟩)
-- asksLikes: 51 steps
set_option maxRecDepth 1000000 in
theorem kt_137 : jck [kc_136] kc_137 kl_137 ks_137 = true := jckq_t (by decide +kernel)
theorem kj_137 {ro : List (List Int32)} (hro : jro ro) : jCok ro jGG kc_137 := jck_ok hro kt_137 (List.forall_mem_cons.mpr ⟨kj_136 hro, fun _ h => absurd h List.not_mem_nil⟩)
-- isShut: 47 steps
set_option maxRecDepth 1000000 in
theorem kt_138 : jck [] kc_138 kl_138 ks_138 = true := jckq_t (by decide +kernel)
theorem kj_138 {ro : List (List Int32)} (hro : jro ro) : jCok ro jGG kc_138 := jck_ok hro kt_138 (fun _ h => absurd h List.not_mem_nil)
-- minutesOfM: 25 steps
set_option maxRecDepth 1000000 in
theorem kt_139 : jck [] kc_139 kl_139 ks_139 = true := jckq_t (by decide +kernel)
theorem kj_139 {ro : List (List Int32)} (hro : jro ro) : jCok ro jGG kc_139 := jck_ok hro kt_139 (fun _ h => absurd h List.not_mem_nil)
-- plansOne: 1099 steps
set_option maxRecDepth 1000000 in
theorem kt_140 : jck [kc_138, kc_139] kc_140 kl_140 ks_140 = true := jckq_t (by decide +kernel)
theorem kj_140 {ro : List (List Int32)} (hro : jro ro) : jCok ro jGG kc_140 := jck_ok hro kt_140 (List.forall_mem_cons.mpr ⟨kj_138 hro, List.forall_mem_cons.mpr ⟨kj_139 hro, fun _ h => absurd h List.not_mem_nil⟩⟩)
-- plansNow: 22 steps
set_option maxRecDepth 1000000 in
theorem kt_141 : jck [kc_137, kc_140] kc_141 kl_141 ks_141 = true := jckq_t (by decide +kernel)
theorem kj_141 {ro : List (List Int32)} (hro : jro ro) : jCok ro jGG kc_141 := jck_ok hro kt_141 (List.forall_mem_cons.mpr ⟨kj_137 hro, List.forall_mem_cons.mpr ⟨kj_140 hro, fun _ h => absurd h List.not_mem_nil⟩⟩)
-- ordersOn7: 56 steps
set_option maxRecDepth 1000000 in
theorem kt_142 : jck [] kc_142 kl_142 ks_142 = true := jckq_t (by decide +kernel)
theorem kj_142 {ro : List (List Int32)} (hro : jro ro) : jCok ro jGG kc_142 := jck_ok hro kt_142 (fun _ h => absurd h List.not_mem_nil)
-- ordersOn6: 198 steps
set_option maxRecDepth 1000000 in
theorem kt_143 : jck [kc_140, kc_142] kc_143 kl_143 ks_143 = true := jckq_t (by decide +kernel)
theorem kj_143 {ro : List (List Int32)} (hro : jro ro) : jCok ro jGG kc_143 := jck_ok hro kt_143 (List.forall_mem_cons.mpr ⟨kj_140 hro, List.forall_mem_cons.mpr ⟨kj_142 hro, fun _ h => absurd h List.not_mem_nil⟩⟩)
-- ordersOn5: 198 steps
set_option maxRecDepth 1000000 in
theorem kt_144 : jck [kc_140, kc_143] kc_144 kl_144 ks_144 = true := jckq_t (by decide +kernel)
theorem kj_144 {ro : List (List Int32)} (hro : jro ro) : jCok ro jGG kc_144 := jck_ok hro kt_144 (List.forall_mem_cons.mpr ⟨kj_140 hro, List.forall_mem_cons.mpr ⟨kj_143 hro, fun _ h => absurd h List.not_mem_nil⟩⟩)
-- ordersOn4: 198 steps
set_option maxRecDepth 1000000 in
theorem kt_145 : jck [kc_140, kc_144] kc_145 kl_145 ks_145 = true := jckq_t (by decide +kernel)
theorem kj_145 {ro : List (List Int32)} (hro : jro ro) : jCok ro jGG kc_145 := jck_ok hro kt_145 (List.forall_mem_cons.mpr ⟨kj_140 hro, List.forall_mem_cons.mpr ⟨kj_144 hro, fun _ h => absurd h List.not_mem_nil⟩⟩)
-- ordersOn3: 198 steps
set_option maxRecDepth 1000000 in
theorem kt_146 : jck [kc_140, kc_145] kc_146 kl_146 ks_146 = true := jckq_t (by decide +kernel)
theorem kj_146 {ro : List (List Int32)} (hro : jro ro) : jCok ro jGG kc_146 := jck_ok hro kt_146 (List.forall_mem_cons.mpr ⟨kj_140 hro, List.forall_mem_cons.mpr ⟨kj_145 hro, fun _ h => absurd h List.not_mem_nil⟩⟩)
-- ordersOn2: 198 steps
set_option maxRecDepth 1000000 in
theorem kt_147 : jck [kc_140, kc_146] kc_147 kl_147 ks_147 = true := jckq_t (by decide +kernel)
theorem kj_147 {ro : List (List Int32)} (hro : jro ro) : jCok ro jGG kc_147 := jck_ok hro kt_147 (List.forall_mem_cons.mpr ⟨kj_140 hro, List.forall_mem_cons.mpr ⟨kj_146 hro, fun _ h => absurd h List.not_mem_nil⟩⟩)
-- ordersOn1: 198 steps
set_option maxRecDepth 1000000 in
theorem kt_148 : jck [kc_140, kc_147] kc_148 kl_148 ks_148 = true := jckq_t (by decide +kernel)
theorem kj_148 {ro : List (List Int32)} (hro : jro ro) : jCok ro jGG kc_148 := jck_ok hro kt_148 (List.forall_mem_cons.mpr ⟨kj_140 hro, List.forall_mem_cons.mpr ⟨kj_147 hro, fun _ h => absurd h List.not_mem_nil⟩⟩)
-- ordersOn0: 178 steps
set_option maxRecDepth 1000000 in
theorem kt_149 : jck [kc_140, kc_148] kc_149 kl_149 ks_149 = true := jckq_t (by decide +kernel)
theorem kj_149 {ro : List (List Int32)} (hro : jro ro) : jCok ro jGG kc_149 := jck_ok hro kt_149 (List.forall_mem_cons.mpr ⟨kj_140 hro, List.forall_mem_cons.mpr ⟨kj_148 hro, fun _ h => absurd h List.not_mem_nil⟩⟩)
-- asksHats: 212 steps
set_option maxRecDepth 1000000 in
theorem kt_150 : jck [kc_135] kc_150 kl_150 ks_150 = true := jckq_t (by decide +kernel)
theorem kj_150 {ro : List (List Int32)} (hro : jro ro) : jCok ro jGG kc_150 := jck_ok hro kt_150 (List.forall_mem_cons.mpr ⟨kj_135 hro, fun _ h => absurd h List.not_mem_nil⟩)
-- wearsFrom7: 13 steps
set_option maxRecDepth 1000000 in
theorem kt_151 : jck [] kc_151 kl_151 ks_151 = true := jckq_t (by decide +kernel)
theorem kj_151 {ro : List (List Int32)} (hro : jro ro) : jCok ro jGG kc_151 := jck_ok hro kt_151 (fun _ h => absurd h List.not_mem_nil)
-- wearsFrom6: 356 steps
set_option maxRecDepth 1000000 in
theorem kt_152 : jck [kc_151] kc_152 kl_152 ks_152 = true := jckq_t (by decide +kernel)
theorem kj_152 {ro : List (List Int32)} (hro : jro ro) : jCok ro jGG kc_152 := jck_ok hro kt_152 (List.forall_mem_cons.mpr ⟨kj_151 hro, fun _ h => absurd h List.not_mem_nil⟩)
-- wearsFrom5: 356 steps
set_option maxRecDepth 1000000 in
theorem kt_153 : jck [kc_152] kc_153 kl_153 ks_153 = true := jckq_t (by decide +kernel)
theorem kj_153 {ro : List (List Int32)} (hro : jro ro) : jCok ro jGG kc_153 := jck_ok hro kt_153 (List.forall_mem_cons.mpr ⟨kj_152 hro, fun _ h => absurd h List.not_mem_nil⟩)
-- wearsFrom4: 356 steps
set_option maxRecDepth 1000000 in
theorem kt_154 : jck [kc_153] kc_154 kl_154 ks_154 = true := jckq_t (by decide +kernel)
theorem kj_154 {ro : List (List Int32)} (hro : jro ro) : jCok ro jGG kc_154 := jck_ok hro kt_154 (List.forall_mem_cons.mpr ⟨kj_153 hro, fun _ h => absurd h List.not_mem_nil⟩)
-- wearsFrom3: 356 steps
set_option maxRecDepth 1000000 in
theorem kt_155 : jck [kc_154] kc_155 kl_155 ks_155 = true := jckq_t (by decide +kernel)
theorem kj_155 {ro : List (List Int32)} (hro : jro ro) : jCok ro jGG kc_155 := jck_ok hro kt_155 (List.forall_mem_cons.mpr ⟨kj_154 hro, fun _ h => absurd h List.not_mem_nil⟩)
-- wearsFrom2: 356 steps
set_option maxRecDepth 1000000 in
theorem kt_156 : jck [kc_155] kc_156 kl_156 ks_156 = true := jckq_t (by decide +kernel)
theorem kj_156 {ro : List (List Int32)} (hro : jro ro) : jCok ro jGG kc_156 := jck_ok hro kt_156 (List.forall_mem_cons.mpr ⟨kj_155 hro, fun _ h => absurd h List.not_mem_nil⟩)
-- wearsFrom1: 356 steps
set_option maxRecDepth 1000000 in
theorem kt_157 : jck [kc_156] kc_157 kl_157 ks_157 = true := jckq_t (by decide +kernel)
theorem kj_157 {ro : List (List Int32)} (hro : jro ro) : jCok ro jGG kc_157 := jck_ok hro kt_157 (List.forall_mem_cons.mpr ⟨kj_156 hro, fun _ h => absurd h List.not_mem_nil⟩)
