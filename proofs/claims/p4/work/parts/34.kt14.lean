/-! checks of contracts, 14 -/
-- sums0: 1498 steps
set_option maxRecDepth 1000000 in
theorem kt_130 : jck [kc_129] kc_130 kl_130 ks_130 = true := jckq_t (by decide +kernel)
theorem kj_130 {ro : List (List Int32)} (hro : jro ro) : jCok ro jGG kc_130 := jck_ok hro kt_130 (List.forall_mem_cons.mpr ⟨kj_129 hro, fun _ h => absurd h List.not_mem_nil⟩)
-- compared0: 170 steps
set_option maxRecDepth 1000000 in
theorem kt_131 : jck [kc_130, kc_91] kc_131 kl_131 ks_131 = true := jckq_t (by decide +kernel)
theorem kj_131 {ro : List (List Int32)} (hro : jro ro) : jCok ro jGG kc_131 := jck_ok hro kt_131 (List.forall_mem_cons.mpr ⟨kj_130 hro, List.forall_mem_cons.mpr ⟨kj_91 hro, fun _ h => absurd h List.not_mem_nil⟩⟩)
-- both0: 446 steps
set_option maxRecDepth 1000000 in
theorem kt_132 : jck [kc_131, kc_91] kc_132 kl_132 ks_132 = true := jckq_t (by decide +kernel)
theorem kj_132 {ro : List (List Int32)} (hro : jro ro) : jCok ro jGG kc_132 := jck_ok hro kt_132 (List.forall_mem_cons.mpr ⟨kj_131 hro, List.forall_mem_cons.mpr ⟨kj_91 hro, fun _ h => absurd h List.not_mem_nil⟩⟩)
-- either0: 336 steps
set_option maxRecDepth 1000000 in
theorem kt_133 : jck [kc_132, kc_91] kc_133 kl_133 ks_133 = true := jckq_t (by decide +kernel)
theorem kj_133 {ro : List (List Int32)} (hro : jro ro) : jCok ro jGG kc_133 := jck_ok hro kt_133 (List.forall_mem_cons.mpr ⟨kj_132 hro, List.forall_mem_cons.mpr ⟨kj_91 hro, fun _ h => absurd h List.not_mem_nil⟩⟩)
-- workOut: 1453 steps
set_option maxRecDepth 1000000 in
theorem kt_134 : jck [kc_133, kc_91] kc_134 kl_134 ks_134 = true := jckq_t (by decide +kernel)
theorem kj_134 {ro : List (List Int32)} (hro : jro ro) : jCok ro jGG kc_134 := jck_ok hro kt_134 (List.forall_mem_cons.mpr ⟨kj_133 hro, List.forall_mem_cons.mpr ⟨kj_91 hro, fun _ h => absurd h List.not_mem_nil⟩⟩)
-- areAlike: 116 steps
set_option maxRecDepth 1000000 in
theorem kt_135 : jck [kc_90, kc_134] kc_135 kl_135 ks_135 = true := jckq_t (by decide +kernel)
theorem kj_135 {ro : List (List Int32)} (hro : jro ro) : jCok ro jGG kc_135 := jck_ok hro kt_135 (List.forall_mem_cons.mpr ⟨kj_90 hro, List.forall_mem_cons.mpr ⟨kj_134 hro, fun _ h => absurd h List.not_mem_nil⟩⟩)
