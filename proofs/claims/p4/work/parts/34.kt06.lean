/-! checks of contracts, 6 -/
-- product5: 2363 steps
set_option maxRecDepth 1000000 in
theorem kt_99 : jck [kc_98, kc_91] kc_99 kl_99 ks_99 = true := jckq_t (by decide +kernel)
theorem kj_99 {ro : List (List Int32)} (hro : jro ro) : jCok ro jGG kc_99 := jck_ok hro kt_99 (List.forall_mem_cons.mpr ⟨kj_98 hro, List.forall_mem_cons.mpr ⟨kj_91 hro, fun _ h => absurd h List.not_mem_nil⟩⟩)
-- sums5: 1498 steps
set_option maxRecDepth 1000000 in
theorem kt_100 : jck [kc_99] kc_100 kl_100 ks_100 = true := jckq_t (by decide +kernel)
theorem kj_100 {ro : List (List Int32)} (hro : jro ro) : jCok ro jGG kc_100 := jck_ok hro kt_100 (List.forall_mem_cons.mpr ⟨kj_99 hro, fun _ h => absurd h List.not_mem_nil⟩)
-- compared5: 170 steps
set_option maxRecDepth 1000000 in
theorem kt_101 : jck [kc_100, kc_91] kc_101 kl_101 ks_101 = true := jckq_t (by decide +kernel)
theorem kj_101 {ro : List (List Int32)} (hro : jro ro) : jCok ro jGG kc_101 := jck_ok hro kt_101 (List.forall_mem_cons.mpr ⟨kj_100 hro, List.forall_mem_cons.mpr ⟨kj_91 hro, fun _ h => absurd h List.not_mem_nil⟩⟩)
