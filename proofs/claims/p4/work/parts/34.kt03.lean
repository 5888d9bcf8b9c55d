/-! checks of contracts, 3 -/
-- readProduct3: 203 steps
set_option maxRecDepth 1000000 in
theorem kt_63 : jck [kc_62] kc_63 kl_63 ks_63 = true := jckq_t (by decide +kernel)
theorem kj_63 {ro : List (List Int32)} (hro : jro ro) : jCok ro jGG kc_63 := jck_ok hro kt_63 (List.forall_mem_cons.mpr ⟨kj_62 hro, fun _ h => absurd h List.not_mem_nil⟩)
-- readSum3: 144 steps
set_option maxRecDepth 1000000 in
theorem kt_64 : jck [kc_63] kc_64 kl_64 ks_64 = true := jckq_t (by decide +kernel)
theorem kj_64 {ro : List (List Int32)} (hro : jro ro) : jCok ro jGG kc_64 := jck_ok hro kt_64 (List.forall_mem_cons.mpr ⟨kj_63 hro, fun _ h => absurd h List.not_mem_nil⟩)
-- readComparison3: 189 steps
set_option maxRecDepth 1000000 in
theorem kt_65 : jck [kc_64] kc_65 kl_65 ks_65 = true := jckq_t (by decide +kernel)
theorem kj_65 {ro : List (List Int32)} (hro : jro ro) : jCok ro jGG kc_65 := jck_ok hro kt_65 (List.forall_mem_cons.mpr ⟨kj_64 hro, fun _ h => absurd h List.not_mem_nil⟩)
-- readBoth3: 99 steps
set_option maxRecDepth 1000000 in
theorem kt_66 : jck [kc_65] kc_66 kl_66 ks_66 = true := jckq_t (by decide +kernel)
theorem kj_66 {ro : List (List Int32)} (hro : jro ro) : jCok ro jGG kc_66 := jck_ok hro kt_66 (List.forall_mem_cons.mpr ⟨kj_65 hro, fun _ h => absurd h List.not_mem_nil⟩)
-- readEither3: 99 steps
set_option maxRecDepth 1000000 in
theorem kt_67 : jck [kc_66] kc_67 kl_67 ks_67 = true := jckq_t (by decide +kernel)
theorem kj_67 {ro : List (List Int32)} (hro : jro ro) : jCok ro jGG kc_67 := jck_ok hro kt_67 (List.forall_mem_cons.mpr ⟨kj_66 hro, fun _ h => absurd h List.not_mem_nil⟩)
-- readOperand2: 720 steps
set_option maxRecDepth 1000000 in
theorem kt_68 : jck [kc_43, kc_62, kc_67] kc_68 kl_68 ks_68 = true := jckq_t (by decide +kernel)
theorem kj_68 {ro : List (List Int32)} (hro : jro ro) : jCok ro jGG kc_68 := jck_ok hro kt_68 (List.forall_mem_cons.mpr ⟨kj_43 hro, List.forall_mem_cons.mpr ⟨kj_62 hro, List.forall_mem_cons.mpr ⟨kj_67 hro, fun _ h => absurd h List.not_mem_nil⟩⟩⟩)
-- readProduct2: 203 steps
set_option maxRecDepth 1000000 in
theorem kt_69 : jck [kc_68] kc_69 kl_69 ks_69 = true := jckq_t (by decide +kernel)
theorem kj_69 {ro : List (List Int32)} (hro : jro ro) : jCok ro jGG kc_69 := jck_ok hro kt_69 (List.forall_mem_cons.mpr ⟨kj_68 hro, fun _ h => absurd h List.not_mem_nil⟩)
-- readSum2: 144 steps
set_option maxRecDepth 1000000 in
theorem kt_70 : jck [kc_69] kc_70 kl_70 ks_70 = true := jckq_t (by decide +kernel)
theorem kj_70 {ro : List (List Int32)} (hro : jro ro) : jCok ro jGG kc_70 := jck_ok hro kt_70 (List.forall_mem_cons.mpr ⟨kj_69 hro, fun _ h => absurd h List.not_mem_nil⟩)
-- readComparison2: 189 steps
set_option maxRecDepth 1000000 in
theorem kt_71 : jck [kc_70] kc_71 kl_71 ks_71 = true := jckq_t (by decide +kernel)
theorem kj_71 {ro : List (List Int32)} (hro : jro ro) : jCok ro jGG kc_71 := jck_ok hro kt_71 (List.forall_mem_cons.mpr ⟨kj_70 hro, fun _ h => absurd h List.not_mem_nil⟩)
-- readBoth2: 99 steps
set_option maxRecDepth 1000000 in
theorem kt_72 : jck [kc_71] kc_72 kl_72 ks_72 = true := jckq_t (by decide +kernel)
theorem kj_72 {ro : List (List Int32)} (hro : jro ro) : jCok ro jGG kc_72 := jck_ok hro kt_72 (List.forall_mem_cons.mpr ⟨kj_71 hro, fun _ h => absurd h List.not_mem_nil⟩)
-- readEither2: 99 steps
set_option maxRecDepth 1000000 in
theorem kt_73 : jck [kc_72] kc_73 kl_73 ks_73 = true := jckq_t (by decide +kernel)
theorem kj_73 {ro : List (List Int32)} (hro : jro ro) : jCok ro jGG kc_73 := jck_ok hro kt_73 (List.forall_mem_cons.mpr ⟨kj_72 hro, fun _ h => absurd h List.not_mem_nil⟩)
-- readOperand1: 720 steps
set_option maxRecDepth 1000000 in
theorem kt_74 : jck [kc_43, kc_68, kc_73] kc_74 kl_74 ks_74 = true := jckq_t (by decide +kernel)
theorem kj_74 {ro : List (List Int32)} (hro : jro ro) : jCok ro jGG kc_74 := jck_ok hro kt_74 (List.forall_mem_cons.mpr ⟨kj_43 hro, List.forall_mem_cons.mpr ⟨kj_68 hro, List.forall_mem_cons.mpr ⟨kj_73 hro, fun _ h => absurd h List.not_mem_nil⟩⟩⟩)
-- readProduct1: 203 steps
set_option maxRecDepth 1000000 in
theorem kt_75 : jck [kc_74] kc_75 kl_75 ks_75 = true := jckq_t (by decide +kernel)
theorem kj_75 {ro : List (List Int32)} (hro : jro ro) : jCok ro jGG kc_75 := jck_ok hro kt_75 (List.forall_mem_cons.mpr ⟨kj_74 hro, fun _ h => absurd h List.not_mem_nil⟩)
-- readSum1: 144 steps
set_option maxRecDepth 1000000 in
theorem kt_76 : jck [kc_75] kc_76 kl_76 ks_76 = true := jckq_t (by decide +kernel)
theorem kj_76 {ro : List (List Int32)} (hro : jro ro) : jCok ro jGG kc_76 := jck_ok hro kt_76 (List.forall_mem_cons.mpr ⟨kj_75 hro, fun _ h => absurd h List.not_mem_nil⟩)
-- readComparison1: 189 steps
set_option maxRecDepth 1000000 in
theorem kt_77 : jck [kc_76] kc_77 kl_77 ks_77 = true := jckq_t (by decide +kernel)
theorem kj_77 {ro : List (List Int32)} (hro : jro ro) : jCok ro jGG kc_77 := jck_ok hro kt_77 (List.forall_mem_cons.mpr ⟨kj_76 hro, fun _ h => absurd h List.not_mem_nil⟩)
-- readBoth1: 99 steps
set_option maxRecDepth 1000000 in
theorem kt_78 : jck [kc_77] kc_78 kl_78 ks_78 = true := jckq_t (by decide +kernel)
theorem kj_78 {ro : List (List Int32)} (hro : jro ro) : jCok ro jGG kc_78 := jck_ok hro kt_78 (List.forall_mem_cons.mpr ⟨kj_77 hro, fun _ h => absurd h List.not_mem_nil⟩)
-- readEither1: 99 steps
set_option maxRecDepth 1000000 in
theorem kt_79 : jck [kc_78] kc_79 kl_79 ks_79 = true := jckq_t (by decide +kernel)
theorem kj_79 {ro : List (List Int32)} (hro : jro ro) : jCok ro jGG kc_79 := jck_ok hro kt_79 (List.forall_mem_cons.mpr ⟨kj_78 hro, fun _ h => absurd h List.not_mem_nil⟩)
-- readOperand0: 720 steps
set_option maxRecDepth 1000000 in
theorem kt_80 : jck [kc_43, kc_74, kc_79] kc_80 kl_80 ks_80 = true := jckq_t (by decide +kernel)
theorem kj_80 {ro : List (List Int32)} (hro : jro ro) : jCok ro jGG kc_80 := jck_ok hro kt_80 (List.forall_mem_cons.mpr ⟨kj_43 hro, List.forall_mem_cons.mpr ⟨kj_74 hro, List.forall_mem_cons.mpr ⟨kj_79 hro, fun _ h => absurd h List.not_mem_nil⟩⟩⟩)
