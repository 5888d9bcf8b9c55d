/-! checks of contracts, 12 -/
def kc_377 : jC := (163, 9, [.inl (.ref 0), .inr (0, (-2147483648), 2147483647), .inr (0, 2, 2), .inr (0, (-2147483648), 2147483647)], [], [(57, 3), (57, 4), (59, 9999)], [(some (0, (-2147483648), 2147483647), [])])
def kl_377 : List jA := []
def ks_377 : List ((Nat × Nat) × Nat) := [((114, 0), 1), ((115, 0), 1), ((215, 22), 99)]
-- X.act2: 1255 steps
set_option maxRecDepth 1000000 in
theorem kt_377 : jck [] kc_377 kl_377 ks_377 = true := jckq_t (by decide +kernel)
theorem kj_377 {ro : List (List Int32)} (hro : jro ro) : jCok ro jGG kc_377 := jck_ok hro kt_377 (fun _ h => absurd h List.not_mem_nil)
def kc_378 : jC := (163, 17, [.inl (.ref 0), .inr (0, (-2147483648), 2147483647), .inr (0, 3, 3), .inr (0, (-2147483648), 2147483647)], [], [(57, 3), (57, 4), (59, 9999)], [(some (0, (-2147483648), 2147483647), [])])
def kl_378 : List jA := []
def ks_378 : List ((Nat × Nat) × Nat) := [((114, 0), 1), ((115, 0), 1), ((215, 22), 99)]
-- X.act3: 4509 steps
set_option maxRecDepth 1000000 in
theorem kt_378 : jck [] kc_378 kl_378 ks_378 = true := jckq_t (by decide +kernel)
theorem kj_378 {ro : List (List Int32)} (hro : jro ro) : jCok ro jGG kc_378 := jck_ok hro kt_378 (fun _ h => absurd h List.not_mem_nil)
def kc_379 : jC := (163, 2, [.inl (.ref 0), .inr (0, (-2147483648), 2147483647), .inr (0, 4, 2147483647), .inr (0, (-2147483648), 2147483647)], [], [(57, 3)], [(some (0, 0, 0), [])])
def kl_379 : List jA := []
def ks_379 : List ((Nat × Nat) × Nat) := [((114, 0), 1), ((115, 0), 1), ((215, 22), 99)]
-- X.act4: 42 steps
set_option maxRecDepth 1000000 in
theorem kt_379 : jck [] kc_379 kl_379 ks_379 = true := jckq_t (by decide +kernel)
theorem kj_379 {ro : List (List Int32)} (hro : jro ro) : jCok ro jGG kc_379 := jck_ok hro kt_379 (fun _ h => absurd h List.not_mem_nil)
def kc_380 : jC := (261, 2, [.inl (.ref 66), .inr (0, (-2147483648), 2147483647), .inr (0, (-2147483648), (-1)), .inr (0, (-2147483648), 2147483647)], [], [(66, 47), (66, 48), (66, 49)], [(some (0, 0, 0), [])])
def kl_380 : List jA := []
def ks_380 : List ((Nat × Nat) × Nat) := [((215, 22), 99), ((257, 0), 1), ((258, 0), 1), ((259, 0), 1), ((260, 0), 1)]
-- M.act-2147483648: 53 steps
set_option maxRecDepth 1000000 in
theorem kt_380 : jck [] kc_380 kl_380 ks_380 = true := jckq_t (by decide +kernel)
theorem kj_380 {ro : List (List Int32)} (hro : jro ro) : jCok ro jGG kc_380 := jck_ok hro kt_380 (fun _ h => absurd h List.not_mem_nil)
def kc_381 : jC := (261, 3, [.inl (.ref 66), .inr (0, (-2147483648), 2147483647), .inr (0, 0, 0), .inr (0, (-2147483648), 2147483647)], [], [(66, 47), (66, 48), (66, 49), (96, 9999)], [(some (0, (-2147483648), 2147483647), [])])
def kl_381 : List jA := []
def ks_381 : List ((Nat × Nat) × Nat) := [((215, 22), 99), ((257, 0), 1), ((258, 0), 1), ((259, 0), 1), ((260, 0), 1)]
-- M.act0: 498 steps
set_option maxRecDepth 1000000 in
theorem kt_381 : jck [] kc_381 kl_381 ks_381 = true := jckq_t (by decide +kernel)
theorem kj_381 {ro : List (List Int32)} (hro : jro ro) : jCok ro jGG kc_381 := jck_ok hro kt_381 (fun _ h => absurd h List.not_mem_nil)
def kc_382 : jC := (261, 5, [.inl (.ref 66), .inr (0, (-2147483648), 2147483647), .inr (0, 1, 1), .inr (0, (-2147483648), 2147483647)], [], [(66, 47), (66, 48), (66, 49), (96, 9999)], [(some (0, (-2147483648), 2147483647), [])])
def kl_382 : List jA := []
def ks_382 : List ((Nat × Nat) × Nat) := [((215, 22), 99), ((257, 0), 1), ((258, 0), 1), ((259, 0), 1), ((260, 0), 1)]
-- M.act1: 1186 steps
set_option maxRecDepth 1000000 in
theorem kt_382 : jck [] kc_382 kl_382 ks_382 = true := jckq_t (by decide +kernel)
theorem kj_382 {ro : List (List Int32)} (hro : jro ro) : jCok ro jGG kc_382 := jck_ok hro kt_382 (fun _ h => absurd h List.not_mem_nil)
def kc_383 : jC := (261, 4, [.inl (.ref 66), .inr (0, (-2147483648), 2147483647), .inr (0, 2, 2), .inr (0, (-2147483648), 2147483647)], [], [(66, 47), (66, 48), (66, 49), (96, 9999)], [(some (0, (-2147483648), 2147483647), [])])
def kl_383 : List jA := []
def ks_383 : List ((Nat × Nat) × Nat) := [((215, 22), 99), ((257, 0), 1), ((258, 0), 1), ((259, 0), 1), ((260, 0), 1)]
-- M.act2: 653 steps
set_option maxRecDepth 1000000 in
theorem kt_383 : jck [] kc_383 kl_383 ks_383 = true := jckq_t (by decide +kernel)
theorem kj_383 {ro : List (List Int32)} (hro : jro ro) : jCok ro jGG kc_383 := jck_ok hro kt_383 (fun _ h => absurd h List.not_mem_nil)
def kc_384 : jC := (261, 7, [.inl (.ref 66), .inr (0, (-2147483648), 2147483647), .inr (0, 3, 3), .inr (0, (-2147483648), 2147483647)], [], [(66, 47), (66, 48), (66, 49), (96, 9999)], [(some (0, (-2147483648), 2147483647), [])])
def kl_384 : List jA := []
def ks_384 : List ((Nat × Nat) × Nat) := [((215, 22), 99), ((257, 0), 1), ((258, 0), 1), ((259, 0), 1), ((260, 0), 1)]
-- M.act3: 2158 steps
set_option maxRecDepth 1000000 in
theorem kt_384 : jck [] kc_384 kl_384 ks_384 = true := jckq_t (by decide +kernel)
theorem kj_384 {ro : List (List Int32)} (hro : jro ro) : jCok ro jGG kc_384 := jck_ok hro kt_384 (fun _ h => absurd h List.not_mem_nil)
