/-! checks of contracts, 7 -/
-- both5: 446 steps
set_option maxRecDepth 1000000 in
theorem kt_102 : jck [kc_101, kc_91] kc_102 kl_102 ks_102 = true := jckq_t (by decide +kernel)
theorem kj_102 {ro : List (List Int32)} (hro : jro ro) : jCok ro jGG kc_102 := jck_ok hro kt_102 (List.forall_mem_cons.mpr ⟨kj_101 hro, List.forall_mem_cons.mpr ⟨kj_91 hro, fun _ h => absurd h List.not_mem_nil⟩⟩)
-- either5: 336 steps
set_option maxRecDepth 1000000 in
theorem kt_103 : jck [kc_102, kc_91] kc_103 kl_103 ks_103 = true := jckq_t (by decide +kernel)
theorem kj_103 {ro : List (List Int32)} (hro : jro ro) : jCok ro jGG kc_103 := jck_ok hro kt_103 (List.forall_mem_cons.mpr ⟨kj_102 hro, List.forall_mem_cons.mpr ⟨kj_91 hro, fun _ h => absurd h List.not_mem_nil⟩⟩)
-- one4: 2235 steps
set_option maxRecDepth 1000000 in
theorem kt_104 : jck [kc_91, kc_103, kc_98] kc_104 kl_104 ks_104 = true := jckq_t (by decide +kernel)
theorem kj_104 {ro : List (List Int32)} (hro : jro ro) : jCok ro jGG kc_104 := jck_ok hro kt_104 (List.forall_mem_cons.mpr ⟨kj_91 hro, List.forall_mem_cons.mpr ⟨kj_103 hro, List.forall_mem_cons.mpr ⟨kj_98 hro, fun _ h => absurd h List.not_mem_nil⟩⟩⟩)
-- product4: 2624 steps
set_option maxRecDepth 1000000 in
theorem kt_105 : jck [kc_104, kc_91] kc_105 kl_105 ks_105 = true := jckq_t (by decide +kernel)
theorem kj_105 {ro : List (List Int32)} (hro : jro ro) : jCok ro jGG kc_105 := jck_ok hro kt_105 (List.forall_mem_cons.mpr ⟨kj_104 hro, List.forall_mem_cons.mpr ⟨kj_91 hro, fun _ h => absurd h List.not_mem_nil⟩⟩)
