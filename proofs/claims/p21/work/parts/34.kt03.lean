/-! checks of contracts, 3 -/
-- product5: 2363 steps
set_option maxRecDepth 1000000 in
theorem kt_99 : jck [kc_98, kc_91] kc_99 kl_99 ks_99 = true := jckq_t (by decide +kernel)
theorem kj_99 {ro : List (List Int32)} (hro : jro ro) : jCok ro jGG kc_99 := jck_ok hro kt_99 (List.forall_mem_cons.mpr ⟨kj_98 hro, List.forall_mem_cons.mpr ⟨kj_91 hro, fun _ h => absurd h List.not_mem_nil⟩⟩)
-- sums5: 1498 steps
set_option maxRecDepth 1000000 in
theorem kt_100 : jck [kc_99] kc_100 kl_100 ks_100 = true := jckq_t (by decide +kernel)
theorem kj_100 {ro : List (List Int32)} (hro : jro ro) : jCok ro jGG kc_100 := jck_ok hro kt_100 (List.forall_mem_cons.mpr ⟨kj_99 hro, fun _ h => absurd h List.not_mem_nil⟩)
-- compared5: 170 steps
set_option maxRecDepth 1000000 in
theorem kt_101 : jck [kc_100, kc_91] kc_101 kl_101 ks_101 = true := jckq_t (by decide +kernel)
theorem kj_101 {ro : List (List Int32)} (hro : jro ro) : jCok ro jGG kc_101 := jck_ok hro kt_101 (List.forall_mem_cons.mpr ⟨kj_100 hro, List.forall_mem_cons.mpr ⟨kj_91 hro, fun _ h => absurd h List.not_mem_nil⟩⟩)
-- both5: 446 steps
set_option maxRecDepth 1000000 in
theorem kt_102 : jck [kc_101, kc_91] kc_102 kl_102 ks_102 = true := jckq_t (by decide +kernel)
theorem kj_102 {ro : List (List Int32)} (hro : jro ro) : jCok ro jGG kc_102 := jck_ok hro kt_102 (List.forall_mem_cons.mpr ⟨kj_101 hro, List.forall_mem_cons.mpr ⟨kj_91 hro, fun _ h => absurd h List.not_mem_nil⟩⟩)
-- either5: 336 steps
set_option maxRecDepth 1000000 in
theorem kt_103 : jck [kc_102, kc_91] kc_103 kl_103 ks_103 = true := jckq_t (by decide +kernel)
theorem kj_103 {ro : List (List Int32)} (hro : jro ro) : jCok ro jGG kc_103 := jck_ok hro kt_103 (List.forall_mem_cons.mpr ⟨kj_102 hro, List.forall_mem_cons.mpr ⟨kj_91 hro, fun _ h => absurd h List.not_mem_nil⟩⟩)
-- one4: 2235 steps
set_option maxRecDepth 1000000 in
theorem kt_104 : jck [kc_91, kc_103, kc_98] kc_104 kl_104 ks_104 = true := jckq_t (by decide +kernel)
theorem kj_104 {ro : List (List Int32)} (hro : jro ro) : jCok ro jGG kc_104 := jck_ok hro kt_104 (List.forall_mem_cons.mpr ⟨kj_91 hro, List.forall_mem_cons.mpr ⟨kj_103 hro, List.forall_mem_cons.mpr ⟨kj_98 hro, fun _ h => absurd h List.not_mem_nil⟩⟩⟩)
-- product4: 2624 steps
set_option maxRecDepth 1000000 in
theorem kt_105 : jck [kc_104, kc_91] kc_105 kl_105 ks_105 = true := jckq_t (by decide +kernel)
theorem kj_105 {ro : List (List Int32)} (hro : jro ro) : jCok ro jGG kc_105 := jck_ok hro kt_105 (List.forall_mem_cons.mpr ⟨kj_104 hro, List.forall_mem_cons.mpr ⟨kj_91 hro, fun _ h => absurd h List.not_mem_nil⟩⟩)
