/-! checks of contracts, 9 -/
-- product3: 2624 steps
set_option maxRecDepth 1000000 in
theorem kt_111 : jck [kc_110, kc_91] kc_111 kl_111 ks_111 = true := jckq_t (by decide +kernel)
theorem kj_111 {ro : List (List Int32)} (hro : jro ro) : jCok ro jGG kc_111 := jck_ok hro kt_111 (List.forall_mem_cons.mpr ⟨kj_110 hro, List.forall_mem_cons.mpr ⟨kj_91 hro, fun _ h => absurd h List.not_mem_nil⟩⟩)
-- sums3: 1498 steps
set_option maxRecDepth 1000000 in
theorem kt_112 : jck [kc_111] kc_112 kl_112 ks_112 = true := jckq_t (by decide +kernel)
theorem kj_112 {ro : List (List Int32)} (hro : jro ro) : jCok ro jGG kc_112 := jck_ok hro kt_112 (List.forall_mem_cons.mpr ⟨kj_111 hro, fun _ h => absurd h List.not_mem_nil⟩)
