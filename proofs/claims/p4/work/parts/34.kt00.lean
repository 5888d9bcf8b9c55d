/-! checks of contracts, 0 -/
/-- done <= kept; fields that are equal -/
def jRR : jRl := [((66, 5), (66, 4), false)]
-- holds: 2583 steps
set_option maxRecDepth 1000000 in
theorem kt_0 : jck [] kc_0 kl_0 ks_0 = true := jckq_t (by decide +kernel)
theorem kj_0 {ro : List (List Int32)} (hro : jro ro) : jCok ro jGG kc_0 := jck_ok hro kt_0 (fun _ h => absurd h List.not_mem_nil)
-- isAfter: 645 steps
set_option maxRecDepth 1000000 in
theorem kt_1 : jck [kc_0] kc_1 kl_1 ks_1 = true := jckq_t (by decide +kernel)
theorem kj_1 {ro : List (List Int32)} (hro : jro ro) : jCok ro jGG kc_1 := jck_ok hro kt_1 (List.forall_mem_cons.mpr ⟨kj_0 hro, fun _ h => absurd h List.not_mem_nil⟩)
-- isWith: 525 steps
set_option maxRecDepth 1000000 in
theorem kt_2 : jck [kc_0] kc_2 kl_2 ks_2 = true := jckq_t (by decide +kernel)
theorem kj_2 {ro : List (List Int32)} (hro : jro ro) : jCok ro jGG kc_2 := jck_ok hro kt_2 (List.forall_mem_cons.mpr ⟨kj_0 hro, fun _ h => absurd h List.not_mem_nil⟩)
-- lookAround: 62 steps
set_option maxRecDepth 1000000 in
theorem kt_3 : jck [kc_1] kc_3 kl_3 ks_3 = true := jckq_t (by decide +kernel)
theorem kj_3 {ro : List (List Int32)} (hro : jro ro) : jCok ro jGG kc_3 := jck_ok hro kt_3 (List.forall_mem_cons.mpr ⟨kj_1 hro, fun _ h => absurd h List.not_mem_nil⟩)
-- pairsAfter: 33 steps
set_option maxRecDepth 1000000 in
theorem kt_4 : jck [kc_1] kc_4 kl_4 ks_4 = true := jckq_t (by decide +kernel)
theorem kj_4 {ro : List (List Int32)} (hro : jro ro) : jCok ro jGG kc_4 := jck_ok hro kt_4 (List.forall_mem_cons.mpr ⟨kj_1 hro, fun _ h => absurd h List.not_mem_nil⟩)
-- isKind: 34 steps
set_option maxRecDepth 1000000 in
theorem kt_5 : jck [] kc_5 kl_5 ks_5 = true := jckq_t (by decide +kernel)
theorem kj_5 {ro : List (List Int32)} (hro : jro ro) : jCok ro jGG kc_5 := jck_ok hro kt_5 (fun _ h => absurd h List.not_mem_nil)
-- takeTurn: 297 steps
set_option maxRecDepth 1000000 in
theorem kt_6 : jck [] kc_6 kl_6 ks_6 = true := jckq_t (by decide +kernel)
theorem kj_6 {ro : List (List Int32)} (hro : jro ro) : jCok ro jGG kc_6 := jck_ok hro kt_6 (fun _ h => absurd h List.not_mem_nil)
