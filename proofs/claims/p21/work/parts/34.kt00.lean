/-! checks of contracts, 0 -/
/-- done <= kept; fields that are equal -/
def jRR : jRl := [((66, 5), (66, 4), false)]
-- holds: 2583 steps
set_option maxRecDepth 1000000 in
theorem kt_0 : jck [] kc_0 kl_0 ks_0 = true := jckq_t (by decide +kernel)
theorem kj_0 {ro : List (List Int32)} (hro : jro ro) : jCok ro jGG kc_0 := jck_ok hro kt_0 (fun _ h => absurd h List.not_mem_nil)
-- isAfter: 645 steps
set_option maxRecDepth 1000000 in
theorem kt_1 : jck [kc_0] kc_1 kl_1 ks_1 = true := jckq_t (by decide +kernel)
theorem kj_1 {ro : List (List Int32)} (hro : jro ro) : jCok ro jGG kc_1 := jck_ok hro kt_1 (List.forall_mem_cons.mpr ⟨kj_0 hro, fun _ h => absurd h List.not_mem_nil⟩)
-- isWith: 525 steps
set_option maxRecDepth 1000000 in
theorem kt_2 : jck [kc_0] kc_2 kl_2 ks_2 = true := jckq_t (by decide +kernel)
theorem kj_2 {ro : List (List Int32)} (hro : jro ro) : jCok ro jGG kc_2 := jck_ok hro kt_2 (List.forall_mem_cons.mpr ⟨kj_0 hro, fun _ h => absurd h List.not_mem_nil⟩)
-- lookAround: 62 steps
set_option maxRecDepth 1000000 in
theorem kt_3 : jck [kc_1] kc_3 kl_3 ks_3 = true := jckq_t (by decide +kernel)
theorem kj_3 {ro : List (List Int32)} (hro : jro ro) : jCok ro jGG kc_3 := jck_ok hro kt_3 (List.forall_mem_cons.mpr ⟨kj_1 hro, fun _ h => absurd h List.not_mem_nil⟩)
-- pairsAfter: 33 steps
set_option maxRecDepth 1000000 in
theorem kt_4 : jck [kc_1] kc_4 kl_4 ks_4 = true := jckq_t (by decide +kernel)
theorem kj_4 {ro : List (List Int32)} (hro : jro ro) : jCok ro jGG kc_4 := jck_ok hro kt_4 (List.forall_mem_cons.mpr ⟨kj_1 hro, fun _ h => absurd h List.not_mem_nil⟩)
-- isKind: 34 steps
set_option maxRecDepth 1000000 in
theorem kt_5 : jck [] kc_5 kl_5 ks_5 = true := jckq_t (by decide +kernel)
theorem kj_5 {ro : List (List Int32)} (hro : jro ro) : jCok ro jGG kc_5 := jck_ok hro kt_5 (fun _ h => absurd h List.not_mem_nil)
-- takeTurn: 297 steps
set_option maxRecDepth 1000000 in
theorem kt_6 : jck [] kc_6 kl_6 ks_6 = true := jckq_t (by decide +kernel)
theorem kj_6 {ro : List (List Int32)} (hro : jro ro) : jCok ro jGG kc_6 := jck_ok hro kt_6 (fun _ h => absurd h List.not_mem_nil)
-- layWithout: 29 steps
set_option maxRecDepth 1000000 in
theorem kt_7 : jck [kc_6] kc_7 kl_7 ks_7 = true := jckq_t (by decide +kernel)
theorem kj_7 {ro : List (List Int32)} (hro : jro ro) : jCok ro jGG kc_7 := jck_ok hro kt_7 (List.forall_mem_cons.mpr ⟨kj_6 hro, fun _ h => absurd h List.not_mem_nil⟩)
-- leastToCome: 28 steps
set_option maxRecDepth 1000000 in
theorem kt_8 : jck [kc_6] kc_8 kl_8 ks_8 = true := jckq_t (by decide +kernel)
theorem kj_8 {ro : List (List Int32)} (hro : jro ro) : jCok ro jGG kc_8 := jck_ok hro kt_8 (List.forall_mem_cons.mpr ⟨kj_6 hro, fun _ h => absurd h List.not_mem_nil⟩)
-- orderFrom7: 36 steps
set_option maxRecDepth 1000000 in
theorem kt_9 : jck [] kc_9 kl_9 ks_9 = true := jckq_t (by decide +kernel)
theorem kj_9 {ro : List (List Int32)} (hro : jro ro) : jCok ro jGG kc_9 := jck_ok hro kt_9 (fun _ h => absurd h List.not_mem_nil)
-- orderFrom6: 92 steps
set_option maxRecDepth 1000000 in
theorem kt_10 : jck [kc_8, kc_6, kc_9] kc_10 kl_10 ks_10 = true := jckq_t (by decide +kernel)
theorem kj_10 {ro : List (List Int32)} (hro : jro ro) : jCok ro jGG kc_10 := jck_ok hro kt_10 (List.forall_mem_cons.mpr ⟨kj_8 hro, List.forall_mem_cons.mpr ⟨kj_6 hro, List.forall_mem_cons.mpr ⟨kj_9 hro, fun _ h => absurd h List.not_mem_nil⟩⟩⟩)
-- orderFrom5: 92 steps
set_option maxRecDepth 1000000 in
theorem kt_11 : jck [kc_8, kc_6, kc_10] kc_11 kl_11 ks_11 = true := jckq_t (by decide +kernel)
theorem kj_11 {ro : List (List Int32)} (hro : jro ro) : jCok ro jGG kc_11 := jck_ok hro kt_11 (List.forall_mem_cons.mpr ⟨kj_8 hro, List.forall_mem_cons.mpr ⟨kj_6 hro, List.forall_mem_cons.mpr ⟨kj_10 hro, fun _ h => absurd h List.not_mem_nil⟩⟩⟩)
-- orderFrom4: 92 steps
set_option maxRecDepth 1000000 in
theorem kt_12 : jck [kc_8, kc_6, kc_11] kc_12 kl_12 ks_12 = true := jckq_t (by decide +kernel)
theorem kj_12 {ro : List (List Int32)} (hro : jro ro) : jCok ro jGG kc_12 := jck_ok hro kt_12 (List.forall_mem_cons.mpr ⟨kj_8 hro, List.forall_mem_cons.mpr ⟨kj_6 hro, List.forall_mem_cons.mpr ⟨kj_11 hro, fun _ h => absurd h List.not_mem_nil⟩⟩⟩)
-- orderFrom3: 92 steps
set_option maxRecDepth 1000000 in
theorem kt_13 : jck [kc_8, kc_6, kc_12] kc_13 kl_13 ks_13 = true := jckq_t (by decide +kernel)
theorem kj_13 {ro : List (List Int32)} (hro : jro ro) : jCok ro jGG kc_13 := jck_ok hro kt_13 (List.forall_mem_cons.mpr ⟨kj_8 hro, List.forall_mem_cons.mpr ⟨kj_6 hro, List.forall_mem_cons.mpr ⟨kj_12 hro, fun _ h => absurd h List.not_mem_nil⟩⟩⟩)
-- orderFrom2: 92 steps
set_option maxRecDepth 1000000 in
theorem kt_14 : jck [kc_8, kc_6, kc_13] kc_14 kl_14 ks_14 = true := jckq_t (by decide +kernel)
theorem kj_14 {ro : List (List Int32)} (hro : jro ro) : jCok ro jGG kc_14 := jck_ok hro kt_14 (List.forall_mem_cons.mpr ⟨kj_8 hro, List.forall_mem_cons.mpr ⟨kj_6 hro, List.forall_mem_cons.mpr ⟨kj_13 hro, fun _ h => absurd h List.not_mem_nil⟩⟩⟩)
-- orderFrom1: 92 steps
set_option maxRecDepth 1000000 in
theorem kt_15 : jck [kc_8, kc_6, kc_14] kc_15 kl_15 ks_15 = true := jckq_t (by decide +kernel)
theorem kj_15 {ro : List (List Int32)} (hro : jro ro) : jCok ro jGG kc_15 := jck_ok hro kt_15 (List.forall_mem_cons.mpr ⟨kj_8 hro, List.forall_mem_cons.mpr ⟨kj_6 hro, List.forall_mem_cons.mpr ⟨kj_14 hro, fun _ h => absurd h List.not_mem_nil⟩⟩⟩)
-- orderFrom0: 82 steps
set_option maxRecDepth 1000000 in
theorem kt_16 : jck [kc_8, kc_6, kc_15] kc_16 kl_16 ks_16 = true := jckq_t (by decide +kernel)
theorem kj_16 {ro : List (List Int32)} (hro : jro ro) : jCok ro jGG kc_16 := jck_ok hro kt_16 (List.forall_mem_cons.mpr ⟨kj_8 hro, List.forall_mem_cons.mpr ⟨kj_6 hro, List.forall_mem_cons.mpr ⟨kj_15 hro, fun _ h => absurd h List.not_mem_nil⟩⟩⟩)
-- findClashes: 264 steps
set_option maxRecDepth 1000000 in
theorem kt_17 : jck [kc_2] kc_17 kl_17 ks_17 = true := jckq_t (by decide +kernel)
theorem kj_17 {ro : List (List Int32)} (hro : jro ro) : jCok ro jGG kc_17 := jck_ok hro kt_17 (List.forall_mem_cons.mpr ⟨kj_2 hro, fun _ h => absurd h List.not_mem_nil⟩)
-- mustWear: 27 steps
set_option maxRecDepth 1000000 in
theorem kt_18 : jck [] kc_18 kl_18 ks_18 = true := jckq_t (by decide +kernel)
theorem kj_18 {ro : List (List Int32)} (hro : jro ro) : jCok ro jGG kc_18 := jck_ok hro kt_18 (fun _ h => absurd h List.not_mem_nil)
-- leavesFree: 65 steps
set_option maxRecDepth 1000000 in
theorem kt_19 : jck [] kc_19 kl_19 ks_19 = true := jckq_t (by decide +kernel)
theorem kj_19 {ro : List (List Int32)} (hro : jro ro) : jCok ro jGG kc_19 := jck_ok hro kt_19 (fun _ h => absurd h List.not_mem_nil)
-- chooseFrom7: 35 steps
set_option maxRecDepth 1000000 in
theorem kt_20 : jck [kc_18] kc_20 kl_20 ks_20 = true := jckq_t (by decide +kernel)
theorem kj_20 {ro : List (List Int32)} (hro : jro ro) : jCok ro jGG kc_20 := jck_ok hro kt_20 (List.forall_mem_cons.mpr ⟨kj_18 hro, fun _ h => absurd h List.not_mem_nil⟩)
-- chooseFrom6: 96 steps
set_option maxRecDepth 1000000 in
theorem kt_21 : jck [kc_18, kc_19, kc_20] kc_21 kl_21 ks_21 = true := jckq_t (by decide +kernel)
theorem kj_21 {ro : List (List Int32)} (hro : jro ro) : jCok ro jGG kc_21 := jck_ok hro kt_21 (List.forall_mem_cons.mpr ⟨kj_18 hro, List.forall_mem_cons.mpr ⟨kj_19 hro, List.forall_mem_cons.mpr ⟨kj_20 hro, fun _ h => absurd h List.not_mem_nil⟩⟩⟩)
-- chooseFrom5: 96 steps
set_option maxRecDepth 1000000 in
theorem kt_22 : jck [kc_18, kc_19, kc_21] kc_22 kl_22 ks_22 = true := jckq_t (by decide +kernel)
theorem kj_22 {ro : List (List Int32)} (hro : jro ro) : jCok ro jGG kc_22 := jck_ok hro kt_22 (List.forall_mem_cons.mpr ⟨kj_18 hro, List.forall_mem_cons.mpr ⟨kj_19 hro, List.forall_mem_cons.mpr ⟨kj_21 hro, fun _ h => absurd h List.not_mem_nil⟩⟩⟩)
-- chooseFrom4: 96 steps
set_option maxRecDepth 1000000 in
theorem kt_23 : jck [kc_18, kc_19, kc_22] kc_23 kl_23 ks_23 = true := jckq_t (by decide +kernel)
theorem kj_23 {ro : List (List Int32)} (hro : jro ro) : jCok ro jGG kc_23 := jck_ok hro kt_23 (List.forall_mem_cons.mpr ⟨kj_18 hro, List.forall_mem_cons.mpr ⟨kj_19 hro, List.forall_mem_cons.mpr ⟨kj_22 hro, fun _ h => absurd h List.not_mem_nil⟩⟩⟩)
-- chooseFrom3: 96 steps
set_option maxRecDepth 1000000 in
theorem kt_24 : jck [kc_18, kc_19, kc_23] kc_24 kl_24 ks_24 = true := jckq_t (by decide +kernel)
theorem kj_24 {ro : List (List Int32)} (hro : jro ro) : jCok ro jGG kc_24 := jck_ok hro kt_24 (List.forall_mem_cons.mpr ⟨kj_18 hro, List.forall_mem_cons.mpr ⟨kj_19 hro, List.forall_mem_cons.mpr ⟨kj_23 hro, fun _ h => absurd h List.not_mem_nil⟩⟩⟩)
-- chooseFrom2: 96 steps
set_option maxRecDepth 1000000 in
theorem kt_25 : jck [kc_18, kc_19, kc_24] kc_25 kl_25 ks_25 = true := jckq_t (by decide +kernel)
theorem kj_25 {ro : List (List Int32)} (hro : jro ro) : jCok ro jGG kc_25 := jck_ok hro kt_25 (List.forall_mem_cons.mpr ⟨kj_18 hro, List.forall_mem_cons.mpr ⟨kj_19 hro, List.forall_mem_cons.mpr ⟨kj_24 hro, fun _ h => absurd h List.not_mem_nil⟩⟩⟩)
-- chooseFrom1: 96 steps
set_option maxRecDepth 1000000 in
theorem kt_26 : jck [kc_18, kc_19, kc_25] kc_26 kl_26 ks_26 = true := jckq_t (by decide +kernel)
theorem kj_26 {ro : List (List Int32)} (hro : jro ro) : jCok ro jGG kc_26 := jck_ok hro kt_26 (List.forall_mem_cons.mpr ⟨kj_18 hro, List.forall_mem_cons.mpr ⟨kj_19 hro, List.forall_mem_cons.mpr ⟨kj_25 hro, fun _ h => absurd h List.not_mem_nil⟩⟩⟩)
-- chooseFrom0: 86 steps
set_option maxRecDepth 1000000 in
theorem kt_27 : jck [kc_18, kc_19, kc_26] kc_27 kl_27 ks_27 = true := jckq_t (by decide +kernel)
theorem kj_27 {ro : List (List Int32)} (hro : jro ro) : jCok ro jGG kc_27 := jck_ok hro kt_27 (List.forall_mem_cons.mpr ⟨kj_18 hro, List.forall_mem_cons.mpr ⟨kj_19 hro, List.forall_mem_cons.mpr ⟨kj_26 hro, fun _ h => absurd h List.not_mem_nil⟩⟩⟩)
-- canLook: 222 steps
set_option maxRecDepth 1000000 in
theorem kt_28 : jck [] kc_28 kl_28 ks_28 = true := jckq_t (by decide +kernel)
theorem kj_28 {ro : List (List Int32)} (hro : jro ro) : jCok ro jGG kc_28 := jck_ok hro kt_28 (fun _ h => absurd h List.not_mem_nil)
-- whoCanBe: 30 steps
set_option maxRecDepth 1000000 in
theorem kt_29 : jck [kc_28] kc_29 kl_29 ks_29 = true := jckq_t (by decide +kernel)
theorem kj_29 {ro : List (List Int32)} (hro : jro ro) : jCok ro jGG kc_29 := jck_ok hro kt_29 (List.forall_mem_cons.mpr ⟨kj_28 hro, fun _ h => absurd h List.not_mem_nil⟩)
-- bar: 94 steps
set_option maxRecDepth 1000000 in
theorem kt_30 : jck [] kc_30 kl_30 ks_30 = true := jckq_t (by decide +kernel)
theorem kj_30 {ro : List (List Int32)} (hro : jro ro) : jCok ro jGG kc_30 := jck_ok hro kt_30 (fun _ h => absurd h List.not_mem_nil)
-- shareOutFrom10: 14 steps
set_option maxRecDepth 1000000 in
theorem kt_31 : jck [] kc_31 kl_31 ks_31 = true := jckq_t (by decide +kernel)
theorem kj_31 {ro : List (List Int32)} (hro : jro ro) : jCok ro jGG kc_31 := jck_ok hro kt_31 (fun _ h => absurd h List.not_mem_nil)
-- shareOutFrom9: 97 steps
set_option maxRecDepth 1000000 in
theorem kt_32 : jck [kc_31] kc_32 kl_32 ks_32 = true := jckq_t (by decide +kernel)
theorem kj_32 {ro : List (List Int32)} (hro : jro ro) : jCok ro jGG kc_32 := jck_ok hro kt_32 (List.forall_mem_cons.mpr ⟨kj_31 hro, fun _ h => absurd h List.not_mem_nil⟩)
-- shareOutFrom8: 97 steps
set_option maxRecDepth 1000000 in
theorem kt_33 : jck [kc_32] kc_33 kl_33 ks_33 = true := jckq_t (by decide +kernel)
theorem kj_33 {ro : List (List Int32)} (hro : jro ro) : jCok ro jGG kc_33 := jck_ok hro kt_33 (List.forall_mem_cons.mpr ⟨kj_32 hro, fun _ h => absurd h List.not_mem_nil⟩)
-- shareOutFrom7: 97 steps
set_option maxRecDepth 1000000 in
theorem kt_34 : jck [kc_33] kc_34 kl_34 ks_34 = true := jckq_t (by decide +kernel)
theorem kj_34 {ro : List (List Int32)} (hro : jro ro) : jCok ro jGG kc_34 := jck_ok hro kt_34 (List.forall_mem_cons.mpr ⟨kj_33 hro, fun _ h => absurd h List.not_mem_nil⟩)
-- shareOutFrom6: 97 steps
set_option maxRecDepth 1000000 in
theorem kt_35 : jck [kc_34] kc_35 kl_35 ks_35 = true := jckq_t (by decide +kernel)
theorem kj_35 {ro : List (List Int32)} (hro : jro ro) : jCok ro jGG kc_35 := jck_ok hro kt_35 (List.forall_mem_cons.mpr ⟨kj_34 hro, fun _ h => absurd h List.not_mem_nil⟩)
-- shareOutFrom5: 97 steps
set_option maxRecDepth 1000000 in
theorem kt_36 : jck [kc_35] kc_36 kl_36 ks_36 = true := jckq_t (by decide +kernel)
theorem kj_36 {ro : List (List Int32)} (hro : jro ro) : jCok ro jGG kc_36 := jck_ok hro kt_36 (List.forall_mem_cons.mpr ⟨kj_35 hro, fun _ h => absurd h List.not_mem_nil⟩)
-- shareOutFrom4: 97 steps
set_option maxRecDepth 1000000 in
theorem kt_37 : jck [kc_36] kc_37 kl_37 ks_37 = true := jckq_t (by decide +kernel)
theorem kj_37 {ro : List (List Int32)} (hro : jro ro) : jCok ro jGG kc_37 := jck_ok hro kt_37 (List.forall_mem_cons.mpr ⟨kj_36 hro, fun _ h => absurd h List.not_mem_nil⟩)
-- shareOutFrom3: 97 steps
set_option maxRecDepth 1000000 in
theorem kt_38 : jck [kc_37] kc_38 kl_38 ks_38 = true := jckq_t (by decide +kernel)
theorem kj_38 {ro : List (List Int32)} (hro : jro ro) : jCok ro jGG kc_38 := jck_ok hro kt_38 (List.forall_mem_cons.mpr ⟨kj_37 hro, fun _ h => absurd h List.not_mem_nil⟩)
-- shareOutFrom2: 97 steps
set_option maxRecDepth 1000000 in
theorem kt_39 : jck [kc_38] kc_39 kl_39 ks_39 = true := jckq_t (by decide +kernel)
theorem kj_39 {ro : List (List Int32)} (hro : jro ro) : jCok ro jGG kc_39 := jck_ok hro kt_39 (List.forall_mem_cons.mpr ⟨kj_38 hro, fun _ h => absurd h List.not_mem_nil⟩)
-- shareOutFrom1: 97 steps
set_option maxRecDepth 1000000 in
theorem kt_40 : jck [kc_39] kc_40 kl_40 ks_40 = true := jckq_t (by decide +kernel)
theorem kj_40 {ro : List (List Int32)} (hro : jro ro) : jCok ro jGG kc_40 := jck_ok hro kt_40 (List.forall_mem_cons.mpr ⟨kj_39 hro, fun _ h => absurd h List.not_mem_nil⟩)
-- shareOutFrom0: 97 steps
set_option maxRecDepth 1000000 in
theorem kt_41 : jck [kc_40] kc_41 kl_41 ks_41 = true := jckq_t (by decide +kernel)
theorem kj_41 {ro : List (List Int32)} (hro : jro ro) : jCok ro jGG kc_41 := jck_ok hro kt_41 (List.forall_mem_cons.mpr ⟨kj_40 hro, fun _ h => absurd h List.not_mem_nil⟩)
-- firstTwoIn: 87 steps
set_option maxRecDepth 1000000 in
theorem kt_42 : jck [] kc_42 kl_42 ks_42 = true := jckq_t (by decide +kernel)
theorem kj_42 {ro : List (List Int32)} (hro : jro ro) : jCok ro jGG kc_42 := jck_ok hro kt_42 (fun _ h => absurd h List.not_mem_nil)
-- readNumber: 724 steps
set_option maxRecDepth 1000000 in
theorem kt_43 : jck [] kc_43 kl_43 ks_43 = true := jckq_t (by decide +kernel)
theorem kj_43 {ro : List (List Int32)} (hro : jro ro) : jCok ro jGG kc_43 := jck_ok hro kt_43 (fun _ h => absurd h List.not_mem_nil)
-- readOperand6: 529 steps
set_option maxRecDepth 1000000 in
theorem kt_44 : jck [kc_43] kc_44 kl_44 ks_44 = true := jckq_t (by decide +kernel)
theorem kj_44 {ro : List (List Int32)} (hro : jro ro) : jCok ro jGG kc_44 := jck_ok hro kt_44 (List.forall_mem_cons.mpr ⟨kj_43 hro, fun _ h => absurd h List.not_mem_nil⟩)
-- readProduct6: 203 steps
set_option maxRecDepth 1000000 in
theorem kt_45 : jck [kc_44] kc_45 kl_45 ks_45 = true := jckq_t (by decide +kernel)
theorem kj_45 {ro : List (List Int32)} (hro : jro ro) : jCok ro jGG kc_45 := jck_ok hro kt_45 (List.forall_mem_cons.mpr ⟨kj_44 hro, fun _ h => absurd h List.not_mem_nil⟩)
-- readSum6: 144 steps
set_option maxRecDepth 1000000 in
theorem kt_46 : jck [kc_45] kc_46 kl_46 ks_46 = true := jckq_t (by decide +kernel)
theorem kj_46 {ro : List (List Int32)} (hro : jro ro) : jCok ro jGG kc_46 := jck_ok hro kt_46 (List.forall_mem_cons.mpr ⟨kj_45 hro, fun _ h => absurd h List.not_mem_nil⟩)
-- readComparison6: 189 steps
set_option maxRecDepth 1000000 in
theorem kt_47 : jck [kc_46] kc_47 kl_47 ks_47 = true := jckq_t (by decide +kernel)
theorem kj_47 {ro : List (List Int32)} (hro : jro ro) : jCok ro jGG kc_47 := jck_ok hro kt_47 (List.forall_mem_cons.mpr ⟨kj_46 hro, fun _ h => absurd h List.not_mem_nil⟩)
