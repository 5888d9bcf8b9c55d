/-! checks of contracts, 4 -/
-- readProduct0: 203 steps
set_option maxRecDepth 1000000 in
theorem kt_81 : jck [kc_80] kc_81 kl_81 ks_81 = true := jckq_t (by decide +kernel)
theorem kj_81 {ro : List (List Int32)} (hro : jro ro) : jCok ro jGG kc_81 := jck_ok hro kt_81 (List.forall_mem_cons.mpr ⟨kj_80 hro, fun _ h => absurd h List.not_mem_nil⟩)
-- readSum0: 144 steps
set_option maxRecDepth 1000000 in
theorem kt_82 : jck [kc_81] kc_82 kl_82 ks_82 = true := jckq_t (by decide +kernel)
theorem kj_82 {ro : List (List Int32)} (hro : jro ro) : jCok ro jGG kc_82 := jck_ok hro kt_82 (List.forall_mem_cons.mpr ⟨kj_81 hro, fun _ h => absurd h List.not_mem_nil⟩)
-- readComparison0: 189 steps
set_option maxRecDepth 1000000 in
theorem kt_83 : jck [kc_82] kc_83 kl_83 ks_83 = true := jckq_t (by decide +kernel)
theorem kj_83 {ro : List (List Int32)} (hro : jro ro) : jCok ro jGG kc_83 := jck_ok hro kt_83 (List.forall_mem_cons.mpr ⟨kj_82 hro, fun _ h => absurd h List.not_mem_nil⟩)
-- readBoth0: 99 steps
set_option maxRecDepth 1000000 in
theorem kt_84 : jck [kc_83] kc_84 kl_84 ks_84 = true := jckq_t (by decide +kernel)
theorem kj_84 {ro : List (List Int32)} (hro : jro ro) : jCok ro jGG kc_84 := jck_ok hro kt_84 (List.forall_mem_cons.mpr ⟨kj_83 hro, fun _ h => absurd h List.not_mem_nil⟩)
-- readEither0: 99 steps
set_option maxRecDepth 1000000 in
theorem kt_85 : jck [kc_84] kc_85 kl_85 ks_85 = true := jckq_t (by decide +kernel)
theorem kj_85 {ro : List (List Int32)} (hro : jro ro) : jCok ro jGG kc_85 := jck_ok hro kt_85 (List.forall_mem_cons.mpr ⟨kj_84 hro, fun _ h => absurd h List.not_mem_nil⟩)
-- readLine: 321 steps
set_option maxRecDepth 1000000 in
theorem kt_86 : jck [kc_85] kc_86 kl_86 ks_86 = true := jckq_t (by decide +kernel)
theorem kj_86 {ro : List (List Int32)} (hro : jro ro) : jCok ro jGG kc_86 := jck_ok hro kt_86 (List.forall_mem_cons.mpr ⟨kj_85 hro, fun _ h => absurd h List.not_mem_nil⟩)
-- lawcopy: 28 steps
set_option maxRecDepth 1000000 in
theorem kt_87 : jck [] kc_87 kl_87 ks_87 = true := jckq_t (by decide +kernel)
theorem kj_87 {ro : List (List Int32)} (hro : jro ro) : jCok ro jGG kc_87 := jck_ok hro kt_87 (fun _ h => absurd h List.not_mem_nil)
-- scenecopy: 66 steps
set_option maxRecDepth 1000000 in
theorem kt_88 : jck [] kc_88 kl_88 ks_88 = true := jckq_t (by decide +kernel)
theorem kj_88 {ro : List (List Int32)} (hro : jro ro) : jCok ro jGG kc_88 := jck_ok hro kt_88 (fun _ h => absurd h List.not_mem_nil)
-- scenecopy2: 66 steps
set_option maxRecDepth 1000000 in
theorem kt_89 : jck [] kc_89 kl_89 ks_89 = true := jckq_t (by decide +kernel)
theorem kj_89 {ro : List (List Int32)} (hro : jro ro) : jCok ro jGG kc_89 := jck_ok hro kt_89 (fun _ h => absurd h List.not_mem_nil)
-- bitsOf: 16 steps
set_option maxRecDepth 1000000 in
theorem kt_90 : jck [] kc_90 kl_90 ks_90 = true := jckq_t (by decide +kernel)
theorem kj_90 {ro : List (List Int32)} (hro : jro ro) : jCok ro jGG kc_90 := jck_ok hro kt_90 (fun _ h => absurd h List.not_mem_nil)
-- byteAt: 27 steps
set_option maxRecDepth 1000000 in
theorem kt_91 : jck [] kc_91 kl_91 ks_91 = true := jckq_t (by decide +kernel)
theorem kj_91 {ro : List (List Int32)} (hro : jro ro) : jCok ro jGG kc_91 := jck_ok hro kt_91 (fun _ h => absurd h List.not_mem_nil)
-- one6: 2023 steps
set_option maxRecDepth 1000000 in
theorem kt_92 : jck [kc_91] kc_92 kl_92 ks_92 = true := jckq_t (by decide +kernel)
theorem kj_92 {ro : List (List Int32)} (hro : jro ro) : jCok ro jGG kc_92 := jck_ok hro kt_92 (List.forall_mem_cons.mpr ⟨kj_91 hro, fun _ h => absurd h List.not_mem_nil⟩)
-- product6: 2102 steps
set_option maxRecDepth 1000000 in
theorem kt_93 : jck [kc_92, kc_91] kc_93 kl_93 ks_93 = true := jckq_t (by decide +kernel)
theorem kj_93 {ro : List (List Int32)} (hro : jro ro) : jCok ro jGG kc_93 := jck_ok hro kt_93 (List.forall_mem_cons.mpr ⟨kj_92 hro, List.forall_mem_cons.mpr ⟨kj_91 hro, fun _ h => absurd h List.not_mem_nil⟩⟩)
