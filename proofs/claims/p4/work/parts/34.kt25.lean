/-! checks of contracts, 25 -/
def kc_377 : jC := (163, 9, [.inl (.ref 0), .inr (0, (-2147483648), 2147483647), .inr (0, 2, 2), .inr (0, (-2147483648), 2147483647)], [], [(57, 3), (57, 4), (59, 9999)], [(some (0, (-2147483648), 2147483647), [])])
def kl_377 : List jA := []
def ks_377 : List ((Nat × Nat) × Nat) := [((114, 0), 1), ((115, 0), 1), ((215, 22), 99)]
-- X.act2: 1255 steps
set_option maxRecDepth 1000000 in
theorem kt_377 : jck [] kc_377 kl_377 ks_377 = true := jckq_t (by decide +kernel)
theorem kj_377 {ro : List (List Int32)} (hro : jro ro) : jCok ro jGG kc_377 := jck_ok hro kt_377 (fun _ h => absurd h List.not_mem_nil)
def kc_378 : jC := (163, 17, [.inl (.ref 0), .inr (0, (-2147483648), 2147483647), .inr (0, 3, 3), .inr (0, (-2147483648), 2147483647)], [], [(57, 3), (57, 4), (59, 9999)], [(some (0, (-2147483648), 2147483647), [])])
def kl_378 : List jA := []
def ks_378 : List ((Nat × Nat) × Nat) := [((114, 0), 1), ((115, 0), 1), ((215, 22), 99)]
-- X.act3: 4509 steps
set_option maxRecDepth 1000000 in
theorem kt_378 : jck [] kc_378 kl_378 ks_378 = true := jckq_t (by decide +kernel)
theorem kj_378 {ro : List (List Int32)} (hro : jro ro) : jCok ro jGG kc_378 := jck_ok hro kt_378 (fun _ h => absurd h List.not_mem_nil)
