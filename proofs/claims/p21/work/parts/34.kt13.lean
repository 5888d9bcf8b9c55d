/-! checks of contracts, 13 -/
def kc_385 : jC := (261, 2, [.inl (.ref 66), .inr (0, (-2147483648), 2147483647), .inr (0, 4, 2147483647), .inr (0, (-2147483648), 2147483647)], [], [(66, 47), (66, 48), (66, 49)], [(some (0, 0, 0), [])])
def kl_385 : List jA := []
def ks_385 : List ((Nat × Nat) × Nat) := [((215, 22), 99), ((257, 0), 1), ((258, 0), 1), ((259, 0), 1), ((260, 0), 1)]
-- M.act4: 53 steps
set_option maxRecDepth 1000000 in
theorem kt_385 : jck [] kc_385 kl_385 ks_385 = true := jckq_t (by decide +kernel)
theorem kj_385 {ro : List (List Int32)} (hro : jro ro) : jCok ro jGG kc_385 := jck_ok hro kt_385 (fun _ h => absurd h List.not_mem_nil)
