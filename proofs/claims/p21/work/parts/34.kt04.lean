/-! checks of contracts, 4 -/
-- sums4: 1498 steps
set_option maxRecDepth 1000000 in
theorem kt_106 : jck [kc_105] kc_106 kl_106 ks_106 = true := jckq_t (by decide +kernel)
theorem kj_106 {ro : List (List Int32)} (hro : jro ro) : jCok ro jGG kc_106 := jck_ok hro kt_106 (List.forall_mem_cons.mpr ⟨kj_105 hro, fun _ h => absurd h List.not_mem_nil⟩)
-- compared4: 170 steps
set_option maxRecDepth 1000000 in
theorem kt_107 : jck [kc_106, kc_91] kc_107 kl_107 ks_107 = true := jckq_t (by decide +kernel)
theorem kj_107 {ro : List (List Int32)} (hro : jro ro) : jCok ro jGG kc_107 := jck_ok hro kt_107 (List.forall_mem_cons.mpr ⟨kj_106 hro, List.forall_mem_cons.mpr ⟨kj_91 hro, fun _ h => absurd h List.not_mem_nil⟩⟩)
-- both4: 446 steps
set_option maxRecDepth 1000000 in
theorem kt_108 : jck [kc_107, kc_91] kc_108 kl_108 ks_108 = true := jckq_t (by decide +kernel)
theorem kj_108 {ro : List (List Int32)} (hro : jro ro) : jCok ro jGG kc_108 := jck_ok hro kt_108 (List.forall_mem_cons.mpr ⟨kj_107 hro, List.forall_mem_cons.mpr ⟨kj_91 hro, fun _ h => absurd h List.not_mem_nil⟩⟩)
-- either4: 336 steps
set_option maxRecDepth 1000000 in
theorem kt_109 : jck [kc_108, kc_91] kc_109 kl_109 ks_109 = true := jckq_t (by decide +kernel)
theorem kj_109 {ro : List (List Int32)} (hro : jro ro) : jCok ro jGG kc_109 := jck_ok hro kt_109 (List.forall_mem_cons.mpr ⟨kj_108 hro, List.forall_mem_cons.mpr ⟨kj_91 hro, fun _ h => absurd h List.not_mem_nil⟩⟩)
-- one3: 2237 steps
set_option maxRecDepth 1000000 in
theorem kt_110 : jck [kc_91, kc_109, kc_104] kc_110 kl_110 ks_110 = true := jckq_t (by decide +kernel)
theorem kj_110 {ro : List (List Int32)} (hro : jro ro) : jCok ro jGG kc_110 := jck_ok hro kt_110 (List.forall_mem_cons.mpr ⟨kj_91 hro, List.forall_mem_cons.mpr ⟨kj_109 hro, List.forall_mem_cons.mpr ⟨kj_104 hro, fun _ h => absurd h List.not_mem_nil⟩⟩⟩)
-- product3: 2624 steps
set_option maxRecDepth 1000000 in
theorem kt_111 : jck [kc_110, kc_91] kc_111 kl_111 ks_111 = true := jckq_t (by decide +kernel)
theorem kj_111 {ro : List (List Int32)} (hro : jro ro) : jCok ro jGG kc_111 := jck_ok hro kt_111 (List.forall_mem_cons.mpr ⟨kj_110 hro, List.forall_mem_cons.mpr ⟨kj_91 hro, fun _ h => absurd h List.not_mem_nil⟩⟩)
-- sums3: 1498 steps
set_option maxRecDepth 1000000 in
theorem kt_112 : jck [kc_111] kc_112 kl_112 ks_112 = true := jckq_t (by decide +kernel)
theorem kj_112 {ro : List (List Int32)} (hro : jro ro) : jCok ro jGG kc_112 := jck_ok hro kt_112 (List.forall_mem_cons.mpr ⟨kj_111 hro, fun _ h => absurd h List.not_mem_nil⟩)
-- compared3: 170 steps
set_option maxRecDepth 1000000 in
theorem kt_113 : jck [kc_112, kc_91] kc_113 kl_113 ks_113 = true := jckq_t (by decide +kernel)
theorem kj_113 {ro : List (List Int32)} (hro : jro ro) : jCok ro jGG kc_113 := jck_ok hro kt_113 (List.forall_mem_cons.mpr ⟨kj_112 hro, List.forall_mem_cons.mpr ⟨kj_91 hro, fun _ h => absurd h List.not_mem_nil⟩⟩)
-- both3: 446 steps
set_option maxRecDepth 1000000 in
theorem kt_114 : jck [kc_113, kc_91] kc_114 kl_114 ks_114 = true := jckq_t (by decide +kernel)
theorem kj_114 {ro : List (List Int32)} (hro : jro ro) : jCok ro jGG kc_114 := jck_ok hro kt_114 (List.forall_mem_cons.mpr ⟨kj_113 hro, List.forall_mem_cons.mpr ⟨kj_91 hro, fun _ h => absurd h List.not_mem_nil⟩⟩)
