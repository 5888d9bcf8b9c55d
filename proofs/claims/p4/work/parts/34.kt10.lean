/-! checks of contracts, 10 -/
-- compared3: 170 steps
set_option maxRecDepth 1000000 in
theorem kt_113 : jck [kc_112, kc_91] kc_113 kl_113 ks_113 = true := jckq_t (by decide +kernel)
theorem kj_113 {ro : List (List Int32)} (hro : jro ro) : jCok ro jGG kc_113 := jck_ok hro kt_113 (List.forall_mem_cons.mpr ⟨kj_112 hro, List.forall_mem_cons.mpr ⟨kj_91 hro, fun _ h => absurd h List.not_mem_nil⟩⟩)
-- both3: 446 steps
set_option maxRecDepth 1000000 in
theorem kt_114 : jck [kc_113, kc_91] kc_114 kl_114 ks_114 = true := jckq_t (by decide +kernel)
theorem kj_114 {ro : List (List Int32)} (hro : jro ro) : jCok ro jGG kc_114 := jck_ok hro kt_114 (List.forall_mem_cons.mpr ⟨kj_113 hro, List.forall_mem_cons.mpr ⟨kj_91 hro, fun _ h => absurd h List.not_mem_nil⟩⟩)
-- either3: 336 steps
set_option maxRecDepth 1000000 in
theorem kt_115 : jck [kc_114, kc_91] kc_115 kl_115 ks_115 = true := jckq_t (by decide +kernel)
theorem kj_115 {ro : List (List Int32)} (hro : jro ro) : jCok ro jGG kc_115 := jck_ok hro kt_115 (List.forall_mem_cons.mpr ⟨kj_114 hro, List.forall_mem_cons.mpr ⟨kj_91 hro, fun _ h => absurd h List.not_mem_nil⟩⟩)
-- one2: 2237 steps
set_option maxRecDepth 1000000 in
theorem kt_116 : jck [kc_91, kc_115, kc_110] kc_116 kl_116 ks_116 = true := jckq_t (by decide +kernel)
theorem kj_116 {ro : List (List Int32)} (hro : jro ro) : jCok ro jGG kc_116 := jck_ok hro kt_116 (List.forall_mem_cons.mpr ⟨kj_91 hro, List.forall_mem_cons.mpr ⟨kj_115 hro, List.forall_mem_cons.mpr ⟨kj_110 hro, fun _ h => absurd h List.not_mem_nil⟩⟩⟩)
-- product2: 2624 steps
set_option maxRecDepth 1000000 in
theorem kt_117 : jck [kc_116, kc_91] kc_117 kl_117 ks_117 = true := jckq_t (by decide +kernel)
theorem kj_117 {ro : List (List Int32)} (hro : jro ro) : jCok ro jGG kc_117 := jck_ok hro kt_117 (List.forall_mem_cons.mpr ⟨kj_116 hro, List.forall_mem_cons.mpr ⟨kj_91 hro, fun _ h => absurd h List.not_mem_nil⟩⟩)
