/-! checks of contracts, 5 -/
-- either3: 336 steps
set_option maxRecDepth 1000000 in
theorem kt_115 : jck [kc_114, kc_91] kc_115 kl_115 ks_115 = true := jckq_t (by decide +kernel)
theorem kj_115 {ro : List (List Int32)} (hro : jro ro) : jCok ro jGG kc_115 := jck_ok hro kt_115 (List.forall_mem_cons.mpr ⟨kj_114 hro, List.forall_mem_cons.mpr ⟨kj_91 hro, fun _ h => absurd h List.not_mem_nil⟩⟩)
-- one2: 2237 steps
set_option maxRecDepth 1000000 in
theorem kt_116 : jck [kc_91, kc_115, kc_110] kc_116 kl_116 ks_116 = true := jckq_t (by decide +kernel)
theorem kj_116 {ro : List (List Int32)} (hro : jro ro) : jCok ro jGG kc_116 := jck_ok hro kt_116 (List.forall_mem_cons.mpr ⟨kj_91 hro, List.forall_mem_cons.mpr ⟨kj_115 hro, List.forall_mem_cons.mpr ⟨kj_110 hro, fun _ h => absurd h List.not_mem_nil⟩⟩⟩)
-- product2: 2624 steps
set_option maxRecDepth 1000000 in
theorem kt_117 : jck [kc_116, kc_91] kc_117 kl_117 ks_117 = true := jckq_t (by decide +kernel)
theorem kj_117 {ro : List (List Int32)} (hro : jro ro) : jCok ro jGG kc_117 := jck_ok hro kt_117 (List.forall_mem_cons.mpr ⟨kj_116 hro, List.forall_mem_cons.mpr ⟨kj_91 hro, fun _ h => absurd h List.not_mem_nil⟩⟩)
-- sums2: 1498 steps
set_option maxRecDepth 1000000 in
theorem kt_118 : jck [kc_117] kc_118 kl_118 ks_118 = true := jckq_t (by decide +kernel)
theorem kj_118 {ro : List (List Int32)} (hro : jro ro) : jCok ro jGG kc_118 := jck_ok hro kt_118 (List.forall_mem_cons.mpr ⟨kj_117 hro, fun _ h => absurd h List.not_mem_nil⟩)
-- compared2: 170 steps
set_option maxRecDepth 1000000 in
theorem kt_119 : jck [kc_118, kc_91] kc_119 kl_119 ks_119 = true := jckq_t (by decide +kernel)
theorem kj_119 {ro : List (List Int32)} (hro : jro ro) : jCok ro jGG kc_119 := jck_ok hro kt_119 (List.forall_mem_cons.mpr ⟨kj_118 hro, List.forall_mem_cons.mpr ⟨kj_91 hro, fun _ h => absurd h List.not_mem_nil⟩⟩)
-- both2: 446 steps
set_option maxRecDepth 1000000 in
theorem kt_120 : jck [kc_119, kc_91] kc_120 kl_120 ks_120 = true := jckq_t (by decide +kernel)
theorem kj_120 {ro : List (List Int32)} (hro : jro ro) : jCok ro jGG kc_120 := jck_ok hro kt_120 (List.forall_mem_cons.mpr ⟨kj_119 hro, List.forall_mem_cons.mpr ⟨kj_91 hro, fun _ h => absurd h List.not_mem_nil⟩⟩)
-- either2: 336 steps
set_option maxRecDepth 1000000 in
theorem kt_121 : jck [kc_120, kc_91] kc_121 kl_121 ks_121 = true := jckq_t (by decide +kernel)
theorem kj_121 {ro : List (List Int32)} (hro : jro ro) : jCok ro jGG kc_121 := jck_ok hro kt_121 (List.forall_mem_cons.mpr ⟨kj_120 hro, List.forall_mem_cons.mpr ⟨kj_91 hro, fun _ h => absurd h List.not_mem_nil⟩⟩)
-- one1: 2237 steps
set_option maxRecDepth 1000000 in
theorem kt_122 : jck [kc_91, kc_121, kc_116] kc_122 kl_122 ks_122 = true := jckq_t (by decide +kernel)
theorem kj_122 {ro : List (List Int32)} (hro : jro ro) : jCok ro jGG kc_122 := jck_ok hro kt_122 (List.forall_mem_cons.mpr ⟨kj_91 hro, List.forall_mem_cons.mpr ⟨kj_121 hro, List.forall_mem_cons.mpr ⟨kj_116 hro, fun _ h => absurd h List.not_mem_nil⟩⟩⟩)
