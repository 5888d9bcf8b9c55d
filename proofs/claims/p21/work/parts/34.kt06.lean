/-! checks of contracts, 6 -/
-- product1: 2624 steps
set_option maxRecDepth 1000000 in
theorem kt_123 : jck [kc_122, kc_91] kc_123 kl_123 ks_123 = true := jckq_t (by decide +kernel)
theorem kj_123 {ro : List (List Int32)} (hro : jro ro) : jCok ro jGG kc_123 := jck_ok hro kt_123 (List.forall_mem_cons.mpr ⟨kj_122 hro, List.forall_mem_cons.mpr ⟨kj_91 hro, fun _ h => absurd h List.not_mem_nil⟩⟩)
-- sums1: 1498 steps
set_option maxRecDepth 1000000 in
theorem kt_124 : jck [kc_123] kc_124 kl_124 ks_124 = true := jckq_t (by decide +kernel)
theorem kj_124 {ro : List (List Int32)} (hro : jro ro) : jCok ro jGG kc_124 := jck_ok hro kt_124 (List.forall_mem_cons.mpr ⟨kj_123 hro, fun _ h => absurd h List.not_mem_nil⟩)
-- compared1: 170 steps
set_option maxRecDepth 1000000 in
theorem kt_125 : jck [kc_124, kc_91] kc_125 kl_125 ks_125 = true := jckq_t (by decide +kernel)
theorem kj_125 {ro : List (List Int32)} (hro : jro ro) : jCok ro jGG kc_125 := jck_ok hro kt_125 (List.forall_mem_cons.mpr ⟨kj_124 hro, List.forall_mem_cons.mpr ⟨kj_91 hro, fun _ h => absurd h List.not_mem_nil⟩⟩)
-- both1: 446 steps
set_option maxRecDepth 1000000 in
theorem kt_126 : jck [kc_125, kc_91] kc_126 kl_126 ks_126 = true := jckq_t (by decide +kernel)
theorem kj_126 {ro : List (List Int32)} (hro : jro ro) : jCok ro jGG kc_126 := jck_ok hro kt_126 (List.forall_mem_cons.mpr ⟨kj_125 hro, List.forall_mem_cons.mpr ⟨kj_91 hro, fun _ h => absurd h List.not_mem_nil⟩⟩)
-- either1: 336 steps
set_option maxRecDepth 1000000 in
theorem kt_127 : jck [kc_126, kc_91] kc_127 kl_127 ks_127 = true := jckq_t (by decide +kernel)
theorem kj_127 {ro : List (List Int32)} (hro : jro ro) : jCok ro jGG kc_127 := jck_ok hro kt_127 (List.forall_mem_cons.mpr ⟨kj_126 hro, List.forall_mem_cons.mpr ⟨kj_91 hro, fun _ h => absurd h List.not_mem_nil⟩⟩)
-- one0: 2237 steps
set_option maxRecDepth 1000000 in
theorem kt_128 : jck [kc_91, kc_127, kc_122] kc_128 kl_128 ks_128 = true := jckq_t (by decide +kernel)
theorem kj_128 {ro : List (List Int32)} (hro : jro ro) : jCok ro jGG kc_128 := jck_ok hro kt_128 (List.forall_mem_cons.mpr ⟨kj_91 hro, List.forall_mem_cons.mpr ⟨kj_127 hro, List.forall_mem_cons.mpr ⟨kj_122 hro, fun _ h => absurd h List.not_mem_nil⟩⟩⟩)
-- product0: 2624 steps
set_option maxRecDepth 1000000 in
theorem kt_129 : jck [kc_128, kc_91] kc_129 kl_129 ks_129 = true := jckq_t (by decide +kernel)
theorem kj_129 {ro : List (List Int32)} (hro : jro ro) : jCok ro jGG kc_129 := jck_ok hro kt_129 (List.forall_mem_cons.mpr ⟨kj_128 hro, List.forall_mem_cons.mpr ⟨kj_91 hro, fun _ h => absurd h List.not_mem_nil⟩⟩)
