/-! checks of contracts, 1 -/
-- readBoth6: 99 steps
set_option maxRecDepth 1000000 in
theorem kt_48 : jck [kc_47] kc_48 kl_48 ks_48 = true := jckq_t (by decide +kernel)
theorem kj_48 {ro : List (List Int32)} (hro : jro ro) : jCok ro jGG kc_48 := jck_ok hro kt_48 (List.forall_mem_cons.mpr ⟨kj_47 hro, fun _ h => absurd h List.not_mem_nil⟩)
-- readEither6: 99 steps
set_option maxRecDepth 1000000 in
theorem kt_49 : jck [kc_48] kc_49 kl_49 ks_49 = true := jckq_t (by decide +kernel)
theorem kj_49 {ro : List (List Int32)} (hro : jro ro) : jCok ro jGG kc_49 := jck_ok hro kt_49 (List.forall_mem_cons.mpr ⟨kj_48 hro, fun _ h => absurd h List.not_mem_nil⟩)
-- readOperand5: 720 steps
set_option maxRecDepth 1000000 in
theorem kt_50 : jck [kc_43, kc_44, kc_49] kc_50 kl_50 ks_50 = true := jckq_t (by decide +kernel)
theorem kj_50 {ro : List (List Int32)} (hro : jro ro) : jCok ro jGG kc_50 := jck_ok hro kt_50 (List.forall_mem_cons.mpr ⟨kj_43 hro, List.forall_mem_cons.mpr ⟨kj_44 hro, List.forall_mem_cons.mpr ⟨kj_49 hro, fun _ h => absurd h List.not_mem_nil⟩⟩⟩)
-- readProduct5: 203 steps
set_option maxRecDepth 1000000 in
theorem kt_51 : jck [kc_50] kc_51 kl_51 ks_51 = true := jckq_t (by decide +kernel)
theorem kj_51 {ro : List (List Int32)} (hro : jro ro) : jCok ro jGG kc_51 := jck_ok hro kt_51 (List.forall_mem_cons.mpr ⟨kj_50 hro, fun _ h => absurd h List.not_mem_nil⟩)
-- readSum5: 144 steps
set_option maxRecDepth 1000000 in
theorem kt_52 : jck [kc_51] kc_52 kl_52 ks_52 = true := jckq_t (by decide +kernel)
theorem kj_52 {ro : List (List Int32)} (hro : jro ro) : jCok ro jGG kc_52 := jck_ok hro kt_52 (List.forall_mem_cons.mpr ⟨kj_51 hro, fun _ h => absurd h List.not_mem_nil⟩)
-- readComparison5: 189 steps
set_option maxRecDepth 1000000 in
theorem kt_53 : jck [kc_52] kc_53 kl_53 ks_53 = true := jckq_t (by decide +kernel)
theorem kj_53 {ro : List (List Int32)} (hro : jro ro) : jCok ro jGG kc_53 := jck_ok hro kt_53 (List.forall_mem_cons.mpr ⟨kj_52 hro, fun _ h => absurd h List.not_mem_nil⟩)
-- readBoth5: 99 steps
set_option maxRecDepth 1000000 in
theorem kt_54 : jck [kc_53] kc_54 kl_54 ks_54 = true := jckq_t (by decide +kernel)
theorem kj_54 {ro : List (List Int32)} (hro : jro ro) : jCok ro jGG kc_54 := jck_ok hro kt_54 (List.forall_mem_cons.mpr ⟨kj_53 hro, fun _ h => absurd h List.not_mem_nil⟩)
-- readEither5: 99 steps
set_option maxRecDepth 1000000 in
theorem kt_55 : jck [kc_54] kc_55 kl_55 ks_55 = true := jckq_t (by decide +kernel)
theorem kj_55 {ro : List (List Int32)} (hro : jro ro) : jCok ro jGG kc_55 := jck_ok hro kt_55 (List.forall_mem_cons.mpr ⟨kj_54 hro, fun _ h => absurd h List.not_mem_nil⟩)
-- readOperand4: 720 steps
set_option maxRecDepth 1000000 in
theorem kt_56 : jck [kc_43, kc_50, kc_55] kc_56 kl_56 ks_56 = true := jckq_t (by decide +kernel)
theorem kj_56 {ro : List (List Int32)} (hro : jro ro) : jCok ro jGG kc_56 := jck_ok hro kt_56 (List.forall_mem_cons.mpr ⟨kj_43 hro, List.forall_mem_cons.mpr ⟨kj_50 hro, List.forall_mem_cons.mpr ⟨kj_55 hro, fun _ h => absurd h List.not_mem_nil⟩⟩⟩)
-- readProduct4: 203 steps
set_option maxRecDepth 1000000 in
theorem kt_57 : jck [kc_56] kc_57 kl_57 ks_57 = true := jckq_t (by decide +kernel)
theorem kj_57 {ro : List (List Int32)} (hro : jro ro) : jCok ro jGG kc_57 := jck_ok hro kt_57 (List.forall_mem_cons.mpr ⟨kj_56 hro, fun _ h => absurd h List.not_mem_nil⟩)
-- readSum4: 144 steps
set_option maxRecDepth 1000000 in
theorem kt_58 : jck [kc_57] kc_58 kl_58 ks_58 = true := jckq_t (by decide +kernel)
theorem kj_58 {ro : List (List Int32)} (hro : jro ro) : jCok ro jGG kc_58 := jck_ok hro kt_58 (List.forall_mem_cons.mpr ⟨kj_57 hro, fun _ h => absurd h List.not_mem_nil⟩)
-- readComparison4: 189 steps
set_option maxRecDepth 1000000 in
theorem kt_59 : jck [kc_58] kc_59 kl_59 ks_59 = true := jckq_t (by decide +kernel)
theorem kj_59 {ro : List (List Int32)} (hro : jro ro) : jCok ro jGG kc_59 := jck_ok hro kt_59 (List.forall_mem_cons.mpr ⟨kj_58 hro, fun _ h => absurd h List.not_mem_nil⟩)
-- readBoth4: 99 steps
set_option maxRecDepth 1000000 in
theorem kt_60 : jck [kc_59] kc_60 kl_60 ks_60 = true := jckq_t (by decide +kernel)
theorem kj_60 {ro : List (List Int32)} (hro : jro ro) : jCok ro jGG kc_60 := jck_ok hro kt_60 (List.forall_mem_cons.mpr ⟨kj_59 hro, fun _ h => absurd h List.not_mem_nil⟩)
-- readEither4: 99 steps
set_option maxRecDepth 1000000 in
theorem kt_61 : jck [kc_60] kc_61 kl_61 ks_61 = true := jckq_t (by decide +kernel)
theorem kj_61 {ro : List (List Int32)} (hro : jro ro) : jCok ro jGG kc_61 := jck_ok hro kt_61 (List.forall_mem_cons.mpr ⟨kj_60 hro, fun _ h => absurd h List.not_mem_nil⟩)
-- readOperand3: 720 steps
set_option maxRecDepth 1000000 in
theorem kt_62 : jck [kc_43, kc_56, kc_61] kc_62 kl_62 ks_62 = true := jckq_t (by decide +kernel)
theorem kj_62 {ro : List (List Int32)} (hro : jro ro) : jCok ro jGG kc_62 := jck_ok hro kt_62 (List.forall_mem_cons.mpr ⟨kj_43 hro, List.forall_mem_cons.mpr ⟨kj_56 hro, List.forall_mem_cons.mpr ⟨kj_61 hro, fun _ h => absurd h List.not_mem_nil⟩⟩⟩)
-- readProduct3: 203 steps
set_option maxRecDepth 1000000 in
theorem kt_63 : jck [kc_62] kc_63 kl_63 ks_63 = true := jckq_t (by decide +kernel)
theorem kj_63 {ro : List (List Int32)} (hro : jro ro) : jCok ro jGG kc_63 := jck_ok hro kt_63 (List.forall_mem_cons.mpr ⟨kj_62 hro, fun _ h => absurd h List.not_mem_nil⟩)
-- readSum3: 144 steps
set_option maxRecDepth 1000000 in
theorem kt_64 : jck [kc_63] kc_64 kl_64 ks_64 = true := jckq_t (by decide +kernel)
theorem kj_64 {ro : List (List Int32)} (hro : jro ro) : jCok ro jGG kc_64 := jck_ok hro kt_64 (List.forall_mem_cons.mpr ⟨kj_63 hro, fun _ h => absurd h List.not_mem_nil⟩)
-- readComparison3: 189 steps
set_option maxRecDepth 1000000 in
theorem kt_65 : jck [kc_64] kc_65 kl_65 ks_65 = true := jckq_t (by decide +kernel)
theorem kj_65 {ro : List (List Int32)} (hro : jro ro) : jCok ro jGG kc_65 := jck_ok hro kt_65 (List.forall_mem_cons.mpr ⟨kj_64 hro, fun _ h => absurd h List.not_mem_nil⟩)
-- readBoth3: 99 steps
set_option maxRecDepth 1000000 in
theorem kt_66 : jck [kc_65] kc_66 kl_66 ks_66 = true := jckq_t (by decide +kernel)
theorem kj_66 {ro : List (List Int32)} (hro : jro ro) : jCok ro jGG kc_66 := jck_ok hro kt_66 (List.forall_mem_cons.mpr ⟨kj_65 hro, fun _ h => absurd h List.not_mem_nil⟩)
-- readEither3: 99 steps
set_option maxRecDepth 1000000 in
theorem kt_67 : jck [kc_66] kc_67 kl_67 ks_67 = true := jckq_t (by decide +kernel)
theorem kj_67 {ro : List (List Int32)} (hro : jro ro) : jCok ro jGG kc_67 := jck_ok hro kt_67 (List.forall_mem_cons.mpr ⟨kj_66 hro, fun _ h => absurd h List.not_mem_nil⟩)
-- readOperand2: 720 steps
set_option maxRecDepth 1000000 in
theorem kt_68 : jck [kc_43, kc_62, kc_67] kc_68 kl_68 ks_68 = true := jckq_t (by decide +kernel)
theorem kj_68 {ro : List (List Int32)} (hro : jro ro) : jCok ro jGG kc_68 := jck_ok hro kt_68 (List.forall_mem_cons.mpr ⟨kj_43 hro, List.forall_mem_cons.mpr ⟨kj_62 hro, List.forall_mem_cons.mpr ⟨kj_67 hro, fun _ h => absurd h List.not_mem_nil⟩⟩⟩)
-- readProduct2: 203 steps
set_option maxRecDepth 1000000 in
theorem kt_69 : jck [kc_68] kc_69 kl_69 ks_69 = true := jckq_t (by decide +kernel)
theorem kj_69 {ro : List (List Int32)} (hro : jro ro) : jCok ro jGG kc_69 := jck_ok hro kt_69 (List.forall_mem_cons.mpr ⟨kj_68 hro, fun _ h => absurd h List.not_mem_nil⟩)
-- readSum2: 144 steps
set_option maxRecDepth 1000000 in
theorem kt_70 : jck [kc_69] kc_70 kl_70 ks_70 = true := jckq_t (by decide +kernel)
theorem kj_70 {ro : List (List Int32)} (hro : jro ro) : jCok ro jGG kc_70 := jck_ok hro kt_70 (List.forall_mem_cons.mpr ⟨kj_69 hro, fun _ h => absurd h List.not_mem_nil⟩)
-- readComparison2: 189 steps
set_option maxRecDepth 1000000 in
theorem kt_71 : jck [kc_70] kc_71 kl_71 ks_71 = true := jckq_t (by decide +kernel)
theorem kj_71 {ro : List (List Int32)} (hro : jro ro) : jCok ro jGG kc_71 := jck_ok hro kt_71 (List.forall_mem_cons.mpr ⟨kj_70 hro, fun _ h => absurd h List.not_mem_nil⟩)
-- readBoth2: 99 steps
set_option maxRecDepth 1000000 in
theorem kt_72 : jck [kc_71] kc_72 kl_72 ks_72 = true := jckq_t (by decide +kernel)
theorem kj_72 {ro : List (List Int32)} (hro : jro ro) : jCok ro jGG kc_72 := jck_ok hro kt_72 (List.forall_mem_cons.mpr ⟨kj_71 hro, fun _ h => absurd h List.not_mem_nil⟩)
-- readEither2: 99 steps
set_option maxRecDepth 1000000 in
theorem kt_73 : jck [kc_72] kc_73 kl_73 ks_73 = true := jckq_t (by decide +kernel)
theorem kj_73 {ro : List (List Int32)} (hro : jro ro) : jCok ro jGG kc_73 := jck_ok hro kt_73 (List.forall_mem_cons.mpr ⟨kj_72 hro, fun _ h => absurd h List.not_mem_nil⟩)
-- readOperand1: 720 steps
set_option maxRecDepth 1000000 in
theorem kt_74 : jck [kc_43, kc_68, kc_73] kc_74 kl_74 ks_74 = true := jckq_t (by decide +kernel)
theorem kj_74 {ro : List (List Int32)} (hro : jro ro) : jCok ro jGG kc_74 := jck_ok hro kt_74 (List.forall_mem_cons.mpr ⟨kj_43 hro, List.forall_mem_cons.mpr ⟨kj_68 hro, List.forall_mem_cons.mpr ⟨kj_73 hro, fun _ h => absurd h List.not_mem_nil⟩⟩⟩)
-- readProduct1: 203 steps
set_option maxRecDepth 1000000 in
theorem kt_75 : jck [kc_74] kc_75 kl_75 ks_75 = true := jckq_t (by decide +kernel)
theorem kj_75 {ro : List (List Int32)} (hro : jro ro) : jCok ro jGG kc_75 := jck_ok hro kt_75 (List.forall_mem_cons.mpr ⟨kj_74 hro, fun _ h => absurd h List.not_mem_nil⟩)
-- readSum1: 144 steps
set_option maxRecDepth 1000000 in
theorem kt_76 : jck [kc_75] kc_76 kl_76 ks_76 = true := jckq_t (by decide +kernel)
theorem kj_76 {ro : List (List Int32)} (hro : jro ro) : jCok ro jGG kc_76 := jck_ok hro kt_76 (List.forall_mem_cons.mpr ⟨kj_75 hro, fun _ h => absurd h List.not_mem_nil⟩)
-- readComparison1: 189 steps
set_option maxRecDepth 1000000 in
theorem kt_77 : jck [kc_76] kc_77 kl_77 ks_77 = true := jckq_t (by decide +kernel)
theorem kj_77 {ro : List (List Int32)} (hro : jro ro) : jCok ro jGG kc_77 := jck_ok hro kt_77 (List.forall_mem_cons.mpr ⟨kj_76 hro, fun _ h => absurd h List.not_mem_nil⟩)
-- readBoth1: 99 steps
set_option maxRecDepth 1000000 in
theorem kt_78 : jck [kc_77] kc_78 kl_78 ks_78 = true := jckq_t (by decide +kernel)
theorem kj_78 {ro : List (List Int32)} (hro : jro ro) : jCok ro jGG kc_78 := jck_ok hro kt_78 (List.forall_mem_cons.mpr ⟨kj_77 hro, fun _ h => absurd h List.not_mem_nil⟩)
-- readEither1: 99 steps
set_option maxRecDepth 1000000 in
theorem kt_79 : jck [kc_78] kc_79 kl_79 ks_79 = true := jckq_t (by decide +kernel)
theorem kj_79 {ro : List (List Int32)} (hro : jro ro) : jCok ro jGG kc_79 := jck_ok hro kt_79 (List.forall_mem_cons.mpr ⟨kj_78 hro, fun _ h => absurd h List.not_mem_nil⟩)
-- readOperand0: 720 steps
set_option maxRecDepth 1000000 in
theorem kt_80 : jck [kc_43, kc_74, kc_79] kc_80 kl_80 ks_80 = true := jckq_t (by decide +kernel)
theorem kj_80 {ro : List (List Int32)} (hro : jro ro) : jCok ro jGG kc_80 := jck_ok hro kt_80 (List.forall_mem_cons.mpr ⟨kj_43 hro, List.forall_mem_cons.mpr ⟨kj_74 hro, List.forall_mem_cons.mpr ⟨kj_79 hro, fun _ h => absurd h List.not_mem_nil⟩⟩⟩)
-- readProduct0: 203 steps
set_option maxRecDepth 1000000 in
theorem kt_81 : jck [kc_80] kc_81 kl_81 ks_81 = true := jckq_t (by decide +kernel)
theorem kj_81 {ro : List (List Int32)} (hro : jro ro) : jCok ro jGG kc_81 := jck_ok hro kt_81 (List.forall_mem_cons.mpr ⟨kj_80 hro, fun _ h => absurd h List.not_mem_nil⟩)
-- readSum0: 144 steps
set_option maxRecDepth 1000000 in
theorem kt_82 : jck [kc_81] kc_82 kl_82 ks_82 = true := jckq_t (by decide +kernel)
theorem kj_82 {ro : List (List Int32)} (hro : jro ro) : jCok ro jGG kc_82 := jck_ok hro kt_82 (List.forall_mem_cons.mpr ⟨kj_81 hro, fun _ h => absurd h List.not_mem_nil⟩)
-- readComparison0: 189 steps
set_option maxRecDepth 1000000 in
theorem kt_83 : jck [kc_82] kc_83 kl_83 ks_83 = true := jckq_t (by decide +kernel)
theorem kj_83 {ro : List (List Int32)} (hro : jro ro) : jCok ro jGG kc_83 := jck_ok hro kt_83 (List.forall_mem_cons.mpr ⟨kj_82 hro, fun _ h => absurd h List.not_mem_nil⟩)
-- readBoth0: 99 steps
set_option maxRecDepth 1000000 in
theorem kt_84 : jck [kc_83] kc_84 kl_84 ks_84 = true := jckq_t (by decide +kernel)
theorem kj_84 {ro : List (List Int32)} (hro : jro ro) : jCok ro jGG kc_84 := jck_ok hro kt_84 (List.forall_mem_cons.mpr ⟨kj_83 hro, fun _ h => absurd h List.not_mem_nil⟩)
-- readEither0: 99 steps
set_option maxRecDepth 1000000 in
theorem kt_85 : jck [kc_84] kc_85 kl_85 ks_85 = true := jckq_t (by decide +kernel)
theorem kj_85 {ro : List (List Int32)} (hro : jro ro) : jCok ro jGG kc_85 := jck_ok hro kt_85 (List.forall_mem_cons.mpr ⟨kj_84 hro, fun _ h => absurd h List.not_mem_nil⟩)
-- readLine: 321 steps
set_option maxRecDepth 1000000 in
theorem kt_86 : jck [kc_85] kc_86 kl_86 ks_86 = true := jckq_t (by decide +kernel)
theorem kj_86 {ro : List (List Int32)} (hro : jro ro) : jCok ro jGG kc_86 := jck_ok hro kt_86 (List.forall_mem_cons.mpr ⟨kj_85 hro, fun _ h => absurd h List.not_mem_nil⟩)
