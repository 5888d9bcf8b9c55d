/-! checks of contracts, 2 -/
-- readProduct6: 203 steps
set_option maxRecDepth 1000000 in
theorem kt_45 : jck [kc_44] kc_45 kl_45 ks_45 = true := jckq_t (by decide +kernel)
theorem kj_45 {ro : List (List Int32)} (hro : jro ro) : jCok ro jGG kc_45 := jck_ok hro kt_45 (List.forall_mem_cons.mpr ⟨kj_44 hro, fun _ h => absurd h List.not_mem_nil⟩)
-- readSum6: 144 steps
set_option maxRecDepth 1000000 in
theorem kt_46 : jck [kc_45] kc_46 kl_46 ks_46 = true := jckq_t (by decide +kernel)
theorem kj_46 {ro : List (List Int32)} (hro : jro ro) : jCok ro jGG kc_46 := jck_ok hro kt_46 (List.forall_mem_cons.mpr ⟨kj_45 hro, fun _ h => absurd h List.not_mem_nil⟩)
-- readComparison6: 189 steps
set_option maxRecDepth 1000000 in
theorem kt_47 : jck [kc_46] kc_47 kl_47 ks_47 = true := jckq_t (by decide +kernel)
theorem kj_47 {ro : List (List Int32)} (hro : jro ro) : jCok ro jGG kc_47 := jck_ok hro kt_47 (List.forall_mem_cons.mpr ⟨kj_46 hro, fun _ h => absurd h List.not_mem_nil⟩)
-- readBoth6: 99 steps
set_option maxRecDepth 1000000 in
theorem kt_48 : jck [kc_47] kc_48 kl_48 ks_48 = true := jckq_t (by decide +kernel)
theorem kj_48 {ro : List (List Int32)} (hro : jro ro) : jCok ro jGG kc_48 := jck_ok hro kt_48 (List.forall_mem_cons.mpr ⟨kj_47 hro, fun _ h => absurd h List.not_mem_nil⟩)
-- readEither6: 99 steps
set_option maxRecDepth 1000000 in
theorem kt_49 : jck [kc_48] kc_49 kl_49 ks_49 = true := jckq_t (by decide +kernel)
theorem kj_49 {ro : List (List Int32)} (hro : jro ro) : jCok ro jGG kc_49 := jck_ok hro kt_49 (List.forall_mem_cons.mpr ⟨kj_48 hro, fun _ h => absurd h List.not_mem_nil⟩)
-- readOperand5: 720 steps
set_option maxRecDepth 1000000 in
theorem kt_50 : jck [kc_43, kc_44, kc_49] kc_50 kl_50 ks_50 = true := jckq_t (by decide +kernel)
theorem kj_50 {ro : List (List Int32)} (hro : jro ro) : jCok ro jGG kc_50 := jck_ok hro kt_50 (List.forall_mem_cons.mpr ⟨kj_43 hro, List.forall_mem_cons.mpr ⟨kj_44 hro, List.forall_mem_cons.mpr ⟨kj_49 hro, fun _ h => absurd h List.not_mem_nil⟩⟩⟩)
-- readProduct5: 203 steps
set_option maxRecDepth 1000000 in
theorem kt_51 : jck [kc_50] kc_51 kl_51 ks_51 = true := jckq_t (by decide +kernel)
theorem kj_51 {ro : List (List Int32)} (hro : jro ro) : jCok ro jGG kc_51 := jck_ok hro kt_51 (List.forall_mem_cons.mpr ⟨kj_50 hro, fun _ h => absurd h List.not_mem_nil⟩)
-- readSum5: 144 steps
set_option maxRecDepth 1000000 in
theorem kt_52 : jck [kc_51] kc_52 kl_52 ks_52 = true := jckq_t (by decide +kernel)
theorem kj_52 {ro : List (List Int32)} (hro : jro ro) : jCok ro jGG kc_52 := jck_ok hro kt_52 (List.forall_mem_cons.mpr ⟨kj_51 hro, fun _ h => absurd h List.not_mem_nil⟩)
-- readComparison5: 189 steps
set_option maxRecDepth 1000000 in
theorem kt_53 : jck [kc_52] kc_53 kl_53 ks_53 = true := jckq_t (by decide +kernel)
theorem kj_53 {ro : List (List Int32)} (hro : jro ro) : jCok ro jGG kc_53 := jck_ok hro kt_53 (List.forall_mem_cons.mpr ⟨kj_52 hro, fun _ h => absurd h List.not_mem_nil⟩)
-- readBoth5: 99 steps
set_option maxRecDepth 1000000 in
theorem kt_54 : jck [kc_53] kc_54 kl_54 ks_54 = true := jckq_t (by decide +kernel)
theorem kj_54 {ro : List (List Int32)} (hro : jro ro) : jCok ro jGG kc_54 := jck_ok hro kt_54 (List.forall_mem_cons.mpr ⟨kj_53 hro, fun _ h => absurd h List.not_mem_nil⟩)
-- readEither5: 99 steps
set_option maxRecDepth 1000000 in
theorem kt_55 : jck [kc_54] kc_55 kl_55 ks_55 = true := jckq_t (by decide +kernel)
theorem kj_55 {ro : List (List Int32)} (hro : jro ro) : jCok ro jGG kc_55 := jck_ok hro kt_55 (List.forall_mem_cons.mpr ⟨kj_54 hro, fun _ h => absurd h List.not_mem_nil⟩)
-- readOperand4: 720 steps
set_option maxRecDepth 1000000 in
theorem kt_56 : jck [kc_43, kc_50, kc_55] kc_56 kl_56 ks_56 = true := jckq_t (by decide +kernel)
theorem kj_56 {ro : List (List Int32)} (hro : jro ro) : jCok ro jGG kc_56 := jck_ok hro kt_56 (List.forall_mem_cons.mpr ⟨kj_43 hro, List.forall_mem_cons.mpr ⟨kj_50 hro, List.forall_mem_cons.mpr ⟨kj_55 hro, fun _ h => absurd h List.not_mem_nil⟩⟩⟩)
-- readProduct4: 203 steps
set_option maxRecDepth 1000000 in
theorem kt_57 : jck [kc_56] kc_57 kl_57 ks_57 = true := jckq_t (by decide +kernel)
theorem kj_57 {ro : List (List Int32)} (hro : jro ro) : jCok ro jGG kc_57 := jck_ok hro kt_57 (List.forall_mem_cons.mpr ⟨kj_56 hro, fun _ h => absurd h List.not_mem_nil⟩)
-- readSum4: 144 steps
set_option maxRecDepth 1000000 in
theorem kt_58 : jck [kc_57] kc_58 kl_58 ks_58 = true := jckq_t (by decide +kernel)
theorem kj_58 {ro : List (List Int32)} (hro : jro ro) : jCok ro jGG kc_58 := jck_ok hro kt_58 (List.forall_mem_cons.mpr ⟨kj_57 hro, fun _ h => absurd h List.not_mem_nil⟩)
-- readComparison4: 189 steps
set_option maxRecDepth 1000000 in
theorem kt_59 : jck [kc_58] kc_59 kl_59 ks_59 = true := jckq_t (by decide +kernel)
theorem kj_59 {ro : List (List Int32)} (hro : jro ro) : jCok ro jGG kc_59 := jck_ok hro kt_59 (List.forall_mem_cons.mpr ⟨kj_58 hro, fun _ h => absurd h List.not_mem_nil⟩)
-- readBoth4: 99 steps
set_option maxRecDepth 1000000 in
theorem kt_60 : jck [kc_59] kc_60 kl_60 ks_60 = true := jckq_t (by decide +kernel)
theorem kj_60 {ro : List (List Int32)} (hro : jro ro) : jCok ro jGG kc_60 := jck_ok hro kt_60 (List.forall_mem_cons.mpr ⟨kj_59 hro, fun _ h => absurd h List.not_mem_nil⟩)
-- readEither4: 99 steps
set_option maxRecDepth 1000000 in
theorem kt_61 : jck [kc_60] kc_61 kl_61 ks_61 = true := jckq_t (by decide +kernel)
theorem kj_61 {ro : List (List Int32)} (hro : jro ro) : jCok ro jGG kc_61 := jck_ok hro kt_61 (List.forall_mem_cons.mpr ⟨kj_60 hro, fun _ h => absurd h List.not_mem_nil⟩)
-- readOperand3: 720 steps
set_option maxRecDepth 1000000 in
theorem kt_62 : jck [kc_43, kc_56, kc_61] kc_62 kl_62 ks_62 = true := jckq_t (by decide +kernel)
theorem kj_62 {ro : List (List Int32)} (hro : jro ro) : jCok ro jGG kc_62 := jck_ok hro kt_62 (List.forall_mem_cons.mpr ⟨kj_43 hro, List.forall_mem_cons.mpr ⟨kj_56 hro, List.forall_mem_cons.mpr ⟨kj_61 hro, fun _ h => absurd h List.not_mem_nil⟩⟩⟩)
