/-! checks of contracts, 19 -/
-- M.act: 4346 steps
set_option maxRecDepth 1000000 in
theorem kt_233 : jck [] kc_233 kl_233 ks_233 = true := by decide +kernel
theorem kj_233 {ro : List (List Int32)} (hro : jro ro) : jCok ro jGG kc_233 := jck_ok hro kt_233 (fun _ h => absurd h List.not_mem_nil)
