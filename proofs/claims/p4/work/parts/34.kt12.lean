/-! checks of contracts, 12 -/
-- product1: 2624 steps
set_option maxRecDepth 1000000 in
theorem kt_123 : jck [kc_122, kc_91] kc_123 kl_123 ks_123 = true := jckq_t (by decide +kernel)
theorem kj_123 {ro : List (List Int32)} (hro : jro ro) : jCok ro jGG kc_123 := jck_ok hro kt_123 (List.forall_mem_cons.mpr ⟨kj_122 hro, List.forall_mem_cons.mpr ⟨kj_91 hro, fun _ h => absurd h List.not_mem_nil⟩⟩)
-- sums1: 1498 steps
set_option maxRecDepth 1000000 in
theorem kt_124 : jck [kc_123] kc_124 kl_124 ks_124 = true := jckq_t (by decide +kernel)
theorem kj_124 {ro : List (List Int32)} (hro : jro ro) : jCok ro jGG kc_124 := jck_ok hro kt_124 (List.forall_mem_cons.mpr ⟨kj_123 hro, fun _ h => absurd h List.not_mem_nil⟩)
