/-! test -/
def jRR : jRl := [((66, 5), (66, 4), false)]
-- byteAt: 27 steps
set_option maxRecDepth 1000000 in
theorem kt_91 : jck [] kc_91 kl_91 ks_91 = true := by decide +kernel
-- one6: 2023 steps
set_option maxRecDepth 1000000 in
theorem kt_92 : jck [kc_91] kc_92 kl_92 ks_92 = true := by decide +kernel
