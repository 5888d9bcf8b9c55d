/-! checks of contracts, 2 -/
-- lawcopy: 28 steps
set_option maxRecDepth 1000000 in
theorem kt_87 : jck [] kc_87 kl_87 ks_87 = true := jckq_t (by decide +kernel)
theorem kj_87 {ro : List (List Int32)} (hro : jro ro) : jCok ro jGG kc_87 := jck_ok hro kt_87 (fun _ h => absurd h List.not_mem_nil)
-- scenecopy: 66 steps
set_option maxRecDepth 1000000 in
theorem kt_88 : jck [] kc_88 kl_88 ks_88 = true := jckq_t (by decide +kernel)
theorem kj_88 {ro : List (List Int32)} (hro : jro ro) : jCok ro jGG kc_88 := jck_ok hro kt_88 (fun _ h => absurd h List.not_mem_nil)
-- scenecopy2: 66 steps
set_option maxRecDepth 1000000 in
theorem kt_89 : jck [] kc_89 kl_89 ks_89 = true := jckq_t (by decide +kernel)
theorem kj_89 {ro : List (List Int32)} (hro : jro ro) : jCok ro jGG kc_89 := jck_ok hro kt_89 (fun _ h => absurd h List.not_mem_nil)
-- bitsOf: 16 steps
set_option maxRecDepth 1000000 in
theorem kt_90 : jck [] kc_90 kl_90 ks_90 = true := jckq_t (by decide +kernel)
theorem kj_90 {ro : List (List Int32)} (hro : jro ro) : jCok ro jGG kc_90 := jck_ok hro kt_90 (fun _ h => absurd h List.not_mem_nil)
-- byteAt: 27 steps
set_option maxRecDepth 1000000 in
theorem kt_91 : jck [] kc_91 kl_91 ks_91 = true := jckq_t (by decide +kernel)
theorem kj_91 {ro : List (List Int32)} (hro : jro ro) : jCok ro jGG kc_91 := jck_ok hro kt_91 (fun _ h => absurd h List.not_mem_nil)
-- one6: 2023 steps
set_option maxRecDepth 1000000 in
theorem kt_92 : jck [kc_91] kc_92 kl_92 ks_92 = true := jckq_t (by decide +kernel)
theorem kj_92 {ro : List (List Int32)} (hro : jro ro) : jCok ro jGG kc_92 := jck_ok hro kt_92 (List.forall_mem_cons.mpr ⟨kj_91 hro, fun _ h => absurd h List.not_mem_nil⟩)
-- product6: 2102 steps
set_option maxRecDepth 1000000 in
theorem kt_93 : jck [kc_92, kc_91] kc_93 kl_93 ks_93 = true := jckq_t (by decide +kernel)
theorem kj_93 {ro : List (List Int32)} (hro : jro ro) : jCok ro jGG kc_93 := jck_ok hro kt_93 (List.forall_mem_cons.mpr ⟨kj_92 hro, List.forall_mem_cons.mpr ⟨kj_91 hro, fun _ h => absurd h List.not_mem_nil⟩⟩)
-- sums6: 1498 steps
set_option maxRecDepth 1000000 in
theorem kt_94 : jck [kc_93] kc_94 kl_94 ks_94 = true := jckq_t (by decide +kernel)
theorem kj_94 {ro : List (List Int32)} (hro : jro ro) : jCok ro jGG kc_94 := jck_ok hro kt_94 (List.forall_mem_cons.mpr ⟨kj_93 hro, fun _ h => absurd h List.not_mem_nil⟩)
-- compared6: 170 steps
set_option maxRecDepth 1000000 in
theorem kt_95 : jck [kc_94, kc_91] kc_95 kl_95 ks_95 = true := jckq_t (by decide +kernel)
theorem kj_95 {ro : List (List Int32)} (hro : jro ro) : jCok ro jGG kc_95 := jck_ok hro kt_95 (List.forall_mem_cons.mpr ⟨kj_94 hro, List.forall_mem_cons.mpr ⟨kj_91 hro, fun _ h => absurd h List.not_mem_nil⟩⟩)
-- both6: 446 steps
set_option maxRecDepth 1000000 in
theorem kt_96 : jck [kc_95, kc_91] kc_96 kl_96 ks_96 = true := jckq_t (by decide +kernel)
theorem kj_96 {ro : List (List Int32)} (hro : jro ro) : jCok ro jGG kc_96 := jck_ok hro kt_96 (List.forall_mem_cons.mpr ⟨kj_95 hro, List.forall_mem_cons.mpr ⟨kj_91 hro, fun _ h => absurd h List.not_mem_nil⟩⟩)
-- either6: 336 steps
set_option maxRecDepth 1000000 in
theorem kt_97 : jck [kc_96, kc_91] kc_97 kl_97 ks_97 = true := jckq_t (by decide +kernel)
theorem kj_97 {ro : List (List Int32)} (hro : jro ro) : jCok ro jGG kc_97 := jck_ok hro kt_97 (List.forall_mem_cons.mpr ⟨kj_96 hro, List.forall_mem_cons.mpr ⟨kj_91 hro, fun _ h => absurd h List.not_mem_nil⟩⟩)
-- one5: 2233 steps
set_option maxRecDepth 1000000 in
theorem kt_98 : jck [kc_91, kc_97, kc_92] kc_98 kl_98 ks_98 = true := jckq_t (by decide +kernel)
theorem kj_98 {ro : List (List Int32)} (hro : jro ro) : jCok ro jGG kc_98 := jck_ok hro kt_98 (List.forall_mem_cons.mpr ⟨kj_91 hro, List.forall_mem_cons.mpr ⟨kj_97 hro, List.forall_mem_cons.mpr ⟨kj_92 hro, fun _ h => absurd h List.not_mem_nil⟩⟩⟩)
