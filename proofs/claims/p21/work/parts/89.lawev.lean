noncomputable section
/-! the law over the pure machine: it answers 1 -/
theorem xhA_rl : jRel xhA jRR := jrb_ok (by decide +kernel)
theorem low63 (a : Int32) : ∃ k : Nat, k < 64 ∧ a &&& (Int8.ofInt 63).toInt32 = Int32.ofNat k := by
  obtain ⟨⟨v⟩⟩ := a
  refine ⟨(v &&& 63#32).toNat, ?_, ?_⟩
  · rw [BitVec.toNat_and]
    exact Nat.lt_of_le_of_lt Nat.and_le_right (by decide)
  · have h : BitVec.ofNat 32 (v &&& 63#32).toNat = v &&& 63#32 := by simp
    show (⟨⟨v &&& 63#32⟩⟩ : Int32) = ⟨⟨BitVec.ofNat 32 _⟩⟩
    rw [h]
theorem law_sw {ro : List (List Int32)} {Q : Option Value → xH → Prop} {i : Int32} {A : Nat → Int32} (hro : jro ro) (hA : jRd ro i A) {p : xH} (hp : jIv p) (k : ∀ p2, jIv p2 → jSh p2 = jSh p → LJ ro Q 1449 i [] p2) : ∀ n : Nat, n < 64 → LJ ro Q 33 i [.int (Int32.ofNat n)] p := by
  intro n hn
  match n, hn with
  | 0, _ => exact jJ_b (i := .tableswitch 1416 0 42 #[187, 220, 263, 296, 319, 352, 395, 428, 451, 464, 487, 500, 533, 566, 589, 612, 645, 668, 681, 704, 727, 770, 793, 826, 859, 882, 905, 938, 961, 974, 987, 1000, 1013, 1026, 1049, 1092, 1115, 1148, 1191, 1264, 1297, 1360, 1393]) (pc' := 220) (st' := []) rfl rfl (by decide +kernel) (lc_0 hro hA hp k)
  | 1, _ => exact jJ_b (i := .tableswitch 1416 0 42 #[187, 220, 263, 296, 319, 352, 395, 428, 451, 464, 487, 500, 533, 566, 589, 612, 645, 668, 681, 704, 727, 770, 793, 826, 859, 882, 905, 938, 961, 974, 987, 1000, 1013, 1026, 1049, 1092, 1115, 1148, 1191, 1264, 1297, 1360, 1393]) (pc' := 253) (st' := []) rfl rfl (by decide +kernel) (lc_1 hro hA hp k)
  | 2, _ => exact jJ_b (i := .tableswitch 1416 0 42 #[187, 220, 263, 296, 319, 352, 395, 428, 451, 464, 487, 500, 533, 566, 589, 612, 645, 668, 681, 704, 727, 770, 793, 826, 859, 882, 905, 938, 961, 974, 987, 1000, 1013, 1026, 1049, 1092, 1115, 1148, 1191, 1264, 1297, 1360, 1393]) (pc' := 296) (st' := []) rfl rfl (by decide +kernel) (lc_2 hro hA hp k)
  | 3, _ => exact jJ_b (i := .tableswitch 1416 0 42 #[187, 220, 263, 296, 319, 352, 395, 428, 451, 464, 487, 500, 533, 566, 589, 612, 645, 668, 681, 704, 727, 770, 793, 826, 859, 882, 905, 938, 961, 974, 987, 1000, 1013, 1026, 1049, 1092, 1115, 1148, 1191, 1264, 1297, 1360, 1393]) (pc' := 329) (st' := []) rfl rfl (by decide +kernel) (lc_3 hro hA hp k)
  | 4, _ => exact jJ_b (i := .tableswitch 1416 0 42 #[187, 220, 263, 296, 319, 352, 395, 428, 451, 464, 487, 500, 533, 566, 589, 612, 645, 668, 681, 704, 727, 770, 793, 826, 859, 882, 905, 938, 961, 974, 987, 1000, 1013, 1026, 1049, 1092, 1115, 1148, 1191, 1264, 1297, 1360, 1393]) (pc' := 352) (st' := []) rfl rfl (by decide +kernel) (lc_4 hro hA hp k)
  | 5, _ => exact jJ_b (i := .tableswitch 1416 0 42 #[187, 220, 263, 296, 319, 352, 395, 428, 451, 464, 487, 500, 533, 566, 589, 612, 645, 668, 681, 704, 727, 770, 793, 826, 859, 882, 905, 938, 961, 974, 987, 1000, 1013, 1026, 1049, 1092, 1115, 1148, 1191, 1264, 1297, 1360, 1393]) (pc' := 385) (st' := []) rfl rfl (by decide +kernel) (lc_5 hro hA hp k)
  | 6, _ => exact jJ_b (i := .tableswitch 1416 0 42 #[187, 220, 263, 296, 319, 352, 395, 428, 451, 464, 487, 500, 533, 566, 589, 612, 645, 668, 681, 704, 727, 770, 793, 826, 859, 882, 905, 938, 961, 974, 987, 1000, 1013, 1026, 1049, 1092, 1115, 1148, 1191, 1264, 1297, 1360, 1393]) (pc' := 428) (st' := []) rfl rfl (by decide +kernel) (lc_6 hro hA hp k)
  | 7, _ => exact jJ_b (i := .tableswitch 1416 0 42 #[187, 220, 263, 296, 319, 352, 395, 428, 451, 464, 487, 500, 533, 566, 589, 612, 645, 668, 681, 704, 727, 770, 793, 826, 859, 882, 905, 938, 961, 974, 987, 1000, 1013, 1026, 1049, 1092, 1115, 1148, 1191, 1264, 1297, 1360, 1393]) (pc' := 461) (st' := []) rfl rfl (by decide +kernel) (lc_7 hro hA hp k)
  | 8, _ => exact jJ_b (i := .tableswitch 1416 0 42 #[187, 220, 263, 296, 319, 352, 395, 428, 451, 464, 487, 500, 533, 566, 589, 612, 645, 668, 681, 704, 727, 770, 793, 826, 859, 882, 905, 938, 961, 974, 987, 1000, 1013, 1026, 1049, 1092, 1115, 1148, 1191, 1264, 1297, 1360, 1393]) (pc' := 484) (st' := []) rfl rfl (by decide +kernel) (lc_8 hro hA hp k)
  | 9, _ => exact jJ_b (i := .tableswitch 1416 0 42 #[187, 220, 263, 296, 319, 352, 395, 428, 451, 464, 487, 500, 533, 566, 589, 612, 645, 668, 681, 704, 727, 770, 793, 826, 859, 882, 905, 938, 961, 974, 987, 1000, 1013, 1026, 1049, 1092, 1115, 1148, 1191, 1264, 1297, 1360, 1393]) (pc' := 497) (st' := []) rfl rfl (by decide +kernel) (lc_9 hro hA hp k)
  | 10, _ => exact jJ_b (i := .tableswitch 1416 0 42 #[187, 220, 263, 296, 319, 352, 395, 428, 451, 464, 487, 500, 533, 566, 589, 612, 645, 668, 681, 704, 727, 770, 793, 826, 859, 882, 905, 938, 961, 974, 987, 1000, 1013, 1026, 1049, 1092, 1115, 1148, 1191, 1264, 1297, 1360, 1393]) (pc' := 520) (st' := []) rfl rfl (by decide +kernel) (lc_10 hro hA hp k)
  | 11, _ => exact jJ_b (i := .tableswitch 1416 0 42 #[187, 220, 263, 296, 319, 352, 395, 428, 451, 464, 487, 500, 533, 566, 589, 612, 645, 668, 681, 704, 727, 770, 793, 826, 859, 882, 905, 938, 961, 974, 987, 1000, 1013, 1026, 1049, 1092, 1115, 1148, 1191, 1264, 1297, 1360, 1393]) (pc' := 533) (st' := []) rfl rfl (by decide +kernel) (lc_11 hro hA hp k)
  | 12, _ => exact jJ_b (i := .tableswitch 1416 0 42 #[187, 220, 263, 296, 319, 352, 395, 428, 451, 464, 487, 500, 533, 566, 589, 612, 645, 668, 681, 704, 727, 770, 793, 826, 859, 882, 905, 938, 961, 974, 987, 1000, 1013, 1026, 1049, 1092, 1115, 1148, 1191, 1264, 1297, 1360, 1393]) (pc' := 566) (st' := []) rfl rfl (by decide +kernel) (lc_12 hro hA hp k)
  | 13, _ => exact jJ_b (i := .tableswitch 1416 0 42 #[187, 220, 263, 296, 319, 352, 395, 428, 451, 464, 487, 500, 533, 566, 589, 612, 645, 668, 681, 704, 727, 770, 793, 826, 859, 882, 905, 938, 961, 974, 987, 1000, 1013, 1026, 1049, 1092, 1115, 1148, 1191, 1264, 1297, 1360, 1393]) (pc' := 599) (st' := []) rfl rfl (by decide +kernel) (lc_13 hro hA hp k)
  | 14, _ => exact jJ_b (i := .tableswitch 1416 0 42 #[187, 220, 263, 296, 319, 352, 395, 428, 451, 464, 487, 500, 533, 566, 589, 612, 645, 668, 681, 704, 727, 770, 793, 826, 859, 882, 905, 938, 961, 974, 987, 1000, 1013, 1026, 1049, 1092, 1115, 1148, 1191, 1264, 1297, 1360, 1393]) (pc' := 622) (st' := []) rfl rfl (by decide +kernel) (lc_14 hro hA hp k)
  | 15, _ => exact jJ_b (i := .tableswitch 1416 0 42 #[187, 220, 263, 296, 319, 352, 395, 428, 451, 464, 487, 500, 533, 566, 589, 612, 645, 668, 681, 704, 727, 770, 793, 826, 859, 882, 905, 938, 961, 974, 987, 1000, 1013, 1026, 1049, 1092, 1115, 1148, 1191, 1264, 1297, 1360, 1393]) (pc' := 645) (st' := []) rfl rfl (by decide +kernel) (lc_15 hro hA hp k)
  | 16, _ => exact jJ_b (i := .tableswitch 1416 0 42 #[187, 220, 263, 296, 319, 352, 395, 428, 451, 464, 487, 500, 533, 566, 589, 612, 645, 668, 681, 704, 727, 770, 793, 826, 859, 882, 905, 938, 961, 974, 987, 1000, 1013, 1026, 1049, 1092, 1115, 1148, 1191, 1264, 1297, 1360, 1393]) (pc' := 678) (st' := []) rfl rfl (by decide +kernel) (lc_16 hro hA hp k)
  | 17, _ => exact jJ_b (i := .tableswitch 1416 0 42 #[187, 220, 263, 296, 319, 352, 395, 428, 451, 464, 487, 500, 533, 566, 589, 612, 645, 668, 681, 704, 727, 770, 793, 826, 859, 882, 905, 938, 961, 974, 987, 1000, 1013, 1026, 1049, 1092, 1115, 1148, 1191, 1264, 1297, 1360, 1393]) (pc' := 701) (st' := []) rfl rfl (by decide +kernel) (lc_17 hro hA hp k)
  | 18, _ => exact jJ_b (i := .tableswitch 1416 0 42 #[187, 220, 263, 296, 319, 352, 395, 428, 451, 464, 487, 500, 533, 566, 589, 612, 645, 668, 681, 704, 727, 770, 793, 826, 859, 882, 905, 938, 961, 974, 987, 1000, 1013, 1026, 1049, 1092, 1115, 1148, 1191, 1264, 1297, 1360, 1393]) (pc' := 714) (st' := []) rfl rfl (by decide +kernel) (lc_18 hro hA hp k)
  | 19, _ => exact jJ_b (i := .tableswitch 1416 0 42 #[187, 220, 263, 296, 319, 352, 395, 428, 451, 464, 487, 500, 533, 566, 589, 612, 645, 668, 681, 704, 727, 770, 793, 826, 859, 882, 905, 938, 961, 974, 987, 1000, 1013, 1026, 1049, 1092, 1115, 1148, 1191, 1264, 1297, 1360, 1393]) (pc' := 737) (st' := []) rfl rfl (by decide +kernel) (lc_19 hro hA hp k)
  | 20, _ => exact jJ_b (i := .tableswitch 1416 0 42 #[187, 220, 263, 296, 319, 352, 395, 428, 451, 464, 487, 500, 533, 566, 589, 612, 645, 668, 681, 704, 727, 770, 793, 826, 859, 882, 905, 938, 961, 974, 987, 1000, 1013, 1026, 1049, 1092, 1115, 1148, 1191, 1264, 1297, 1360, 1393]) (pc' := 760) (st' := []) rfl rfl (by decide +kernel) (lc_20 hro hA hp k)
  | 21, _ => exact jJ_b (i := .tableswitch 1416 0 42 #[187, 220, 263, 296, 319, 352, 395, 428, 451, 464, 487, 500, 533, 566, 589, 612, 645, 668, 681, 704, 727, 770, 793, 826, 859, 882, 905, 938, 961, 974, 987, 1000, 1013, 1026, 1049, 1092, 1115, 1148, 1191, 1264, 1297, 1360, 1393]) (pc' := 803) (st' := []) rfl rfl (by decide +kernel) (lc_21 hro hA hp k)
  | 22, _ => exact jJ_b (i := .tableswitch 1416 0 42 #[187, 220, 263, 296, 319, 352, 395, 428, 451, 464, 487, 500, 533, 566, 589, 612, 645, 668, 681, 704, 727, 770, 793, 826, 859, 882, 905, 938, 961, 974, 987, 1000, 1013, 1026, 1049, 1092, 1115, 1148, 1191, 1264, 1297, 1360, 1393]) (pc' := 826) (st' := []) rfl rfl (by decide +kernel) (lc_22 hro hA hp k)
  | 23, _ => exact jJ_b (i := .tableswitch 1416 0 42 #[187, 220, 263, 296, 319, 352, 395, 428, 451, 464, 487, 500, 533, 566, 589, 612, 645, 668, 681, 704, 727, 770, 793, 826, 859, 882, 905, 938, 961, 974, 987, 1000, 1013, 1026, 1049, 1092, 1115, 1148, 1191, 1264, 1297, 1360, 1393]) (pc' := 859) (st' := []) rfl rfl (by decide +kernel) (lc_23 hro hA hp k)
  | 24, _ => exact jJ_b (i := .tableswitch 1416 0 42 #[187, 220, 263, 296, 319, 352, 395, 428, 451, 464, 487, 500, 533, 566, 589, 612, 645, 668, 681, 704, 727, 770, 793, 826, 859, 882, 905, 938, 961, 974, 987, 1000, 1013, 1026, 1049, 1092, 1115, 1148, 1191, 1264, 1297, 1360, 1393]) (pc' := 892) (st' := []) rfl rfl (by decide +kernel) (lc_24 hro hA hp k)
  | 25, _ => exact jJ_b (i := .tableswitch 1416 0 42 #[187, 220, 263, 296, 319, 352, 395, 428, 451, 464, 487, 500, 533, 566, 589, 612, 645, 668, 681, 704, 727, 770, 793, 826, 859, 882, 905, 938, 961, 974, 987, 1000, 1013, 1026, 1049, 1092, 1115, 1148, 1191, 1264, 1297, 1360, 1393]) (pc' := 915) (st' := []) rfl rfl (by decide +kernel) (lc_25 hro hA hp k)
  | 26, _ => exact jJ_b (i := .tableswitch 1416 0 42 #[187, 220, 263, 296, 319, 352, 395, 428, 451, 464, 487, 500, 533, 566, 589, 612, 645, 668, 681, 704, 727, 770, 793, 826, 859, 882, 905, 938, 961, 974, 987, 1000, 1013, 1026, 1049, 1092, 1115, 1148, 1191, 1264, 1297, 1360, 1393]) (pc' := 938) (st' := []) rfl rfl (by decide +kernel) (lc_26 hro hA hp k)
  | 27, _ => exact jJ_b (i := .tableswitch 1416 0 42 #[187, 220, 263, 296, 319, 352, 395, 428, 451, 464, 487, 500, 533, 566, 589, 612, 645, 668, 681, 704, 727, 770, 793, 826, 859, 882, 905, 938, 961, 974, 987, 1000, 1013, 1026, 1049, 1092, 1115, 1148, 1191, 1264, 1297, 1360, 1393]) (pc' := 971) (st' := []) rfl rfl (by decide +kernel) (lc_27 hro hA hp k)
  | 28, _ => exact jJ_b (i := .tableswitch 1416 0 42 #[187, 220, 263, 296, 319, 352, 395, 428, 451, 464, 487, 500, 533, 566, 589, 612, 645, 668, 681, 704, 727, 770, 793, 826, 859, 882, 905, 938, 961, 974, 987, 1000, 1013, 1026, 1049, 1092, 1115, 1148, 1191, 1264, 1297, 1360, 1393]) (pc' := 994) (st' := []) rfl rfl (by decide +kernel) (lc_28 hro hA hp k)
  | 29, _ => exact jJ_b (i := .tableswitch 1416 0 42 #[187, 220, 263, 296, 319, 352, 395, 428, 451, 464, 487, 500, 533, 566, 589, 612, 645, 668, 681, 704, 727, 770, 793, 826, 859, 882, 905, 938, 961, 974, 987, 1000, 1013, 1026, 1049, 1092, 1115, 1148, 1191, 1264, 1297, 1360, 1393]) (pc' := 1007) (st' := []) rfl rfl (by decide +kernel) (lc_29 hro hA hp k)
  | 30, _ => exact jJ_b (i := .tableswitch 1416 0 42 #[187, 220, 263, 296, 319, 352, 395, 428, 451, 464, 487, 500, 533, 566, 589, 612, 645, 668, 681, 704, 727, 770, 793, 826, 859, 882, 905, 938, 961, 974, 987, 1000, 1013, 1026, 1049, 1092, 1115, 1148, 1191, 1264, 1297, 1360, 1393]) (pc' := 1020) (st' := []) rfl rfl (by decide +kernel) (lc_30 hro hA hp k)
  | 31, _ => exact jJ_b (i := .tableswitch 1416 0 42 #[187, 220, 263, 296, 319, 352, 395, 428, 451, 464, 487, 500, 533, 566, 589, 612, 645, 668, 681, 704, 727, 770, 793, 826, 859, 882, 905, 938, 961, 974, 987, 1000, 1013, 1026, 1049, 1092, 1115, 1148, 1191, 1264, 1297, 1360, 1393]) (pc' := 1033) (st' := []) rfl rfl (by decide +kernel) (lc_31 hro hA hp k)
  | 32, _ => exact jJ_b (i := .tableswitch 1416 0 42 #[187, 220, 263, 296, 319, 352, 395, 428, 451, 464, 487, 500, 533, 566, 589, 612, 645, 668, 681, 704, 727, 770, 793, 826, 859, 882, 905, 938, 961, 974, 987, 1000, 1013, 1026, 1049, 1092, 1115, 1148, 1191, 1264, 1297, 1360, 1393]) (pc' := 1046) (st' := []) rfl rfl (by decide +kernel) (lc_32 hro hA hp k)
  | 33, _ => exact jJ_b (i := .tableswitch 1416 0 42 #[187, 220, 263, 296, 319, 352, 395, 428, 451, 464, 487, 500, 533, 566, 589, 612, 645, 668, 681, 704, 727, 770, 793, 826, 859, 882, 905, 938, 961, 974, 987, 1000, 1013, 1026, 1049, 1092, 1115, 1148, 1191, 1264, 1297, 1360, 1393]) (pc' := 1059) (st' := []) rfl rfl (by decide +kernel) (lc_33 hro hA hp k)
  | 34, _ => exact jJ_b (i := .tableswitch 1416 0 42 #[187, 220, 263, 296, 319, 352, 395, 428, 451, 464, 487, 500, 533, 566, 589, 612, 645, 668, 681, 704, 727, 770, 793, 826, 859, 882, 905, 938, 961, 974, 987, 1000, 1013, 1026, 1049, 1092, 1115, 1148, 1191, 1264, 1297, 1360, 1393]) (pc' := 1082) (st' := []) rfl rfl (by decide +kernel) (lc_34 hro hA hp k)
  | 35, _ => exact jJ_b (i := .tableswitch 1416 0 42 #[187, 220, 263, 296, 319, 352, 395, 428, 451, 464, 487, 500, 533, 566, 589, 612, 645, 668, 681, 704, 727, 770, 793, 826, 859, 882, 905, 938, 961, 974, 987, 1000, 1013, 1026, 1049, 1092, 1115, 1148, 1191, 1264, 1297, 1360, 1393]) (pc' := 1125) (st' := []) rfl rfl (by decide +kernel) (lc_35 hro hA hp k)
  | 36, _ => exact jJ_b (i := .tableswitch 1416 0 42 #[187, 220, 263, 296, 319, 352, 395, 428, 451, 464, 487, 500, 533, 566, 589, 612, 645, 668, 681, 704, 727, 770, 793, 826, 859, 882, 905, 938, 961, 974, 987, 1000, 1013, 1026, 1049, 1092, 1115, 1148, 1191, 1264, 1297, 1360, 1393]) (pc' := 1148) (st' := []) rfl rfl (by decide +kernel) (lc_36 hro hA hp k)
  | 37, _ => exact jJ_b (i := .tableswitch 1416 0 42 #[187, 220, 263, 296, 319, 352, 395, 428, 451, 464, 487, 500, 533, 566, 589, 612, 645, 668, 681, 704, 727, 770, 793, 826, 859, 882, 905, 938, 961, 974, 987, 1000, 1013, 1026, 1049, 1092, 1115, 1148, 1191, 1264, 1297, 1360, 1393]) (pc' := 1181) (st' := []) rfl rfl (by decide +kernel) (lc_37 hro hA hp k)
  | 38, _ => exact jJ_b (i := .tableswitch 1416 0 42 #[187, 220, 263, 296, 319, 352, 395, 428, 451, 464, 487, 500, 533, 566, 589, 612, 645, 668, 681, 704, 727, 770, 793, 826, 859, 882, 905, 938, 961, 974, 987, 1000, 1013, 1026, 1049, 1092, 1115, 1148, 1191, 1264, 1297, 1360, 1393]) (pc' := 1224) (st' := []) rfl rfl (by decide +kernel) (lc_38 hro hA hp k)
  | 39, _ => exact jJ_b (i := .tableswitch 1416 0 42 #[187, 220, 263, 296, 319, 352, 395, 428, 451, 464, 487, 500, 533, 566, 589, 612, 645, 668, 681, 704, 727, 770, 793, 826, 859, 882, 905, 938, 961, 974, 987, 1000, 1013, 1026, 1049, 1092, 1115, 1148, 1191, 1264, 1297, 1360, 1393]) (pc' := 1297) (st' := []) rfl rfl (by decide +kernel) (lc_39 hro hA hp k)
  | 40, _ => exact jJ_b (i := .tableswitch 1416 0 42 #[187, 220, 263, 296, 319, 352, 395, 428, 451, 464, 487, 500, 533, 566, 589, 612, 645, 668, 681, 704, 727, 770, 793, 826, 859, 882, 905, 938, 961, 974, 987, 1000, 1013, 1026, 1049, 1092, 1115, 1148, 1191, 1264, 1297, 1360, 1393]) (pc' := 1330) (st' := []) rfl rfl (by decide +kernel) (lc_40 hro hA hp k)
  | 41, _ => exact jJ_b (i := .tableswitch 1416 0 42 #[187, 220, 263, 296, 319, 352, 395, 428, 451, 464, 487, 500, 533, 566, 589, 612, 645, 668, 681, 704, 727, 770, 793, 826, 859, 882, 905, 938, 961, 974, 987, 1000, 1013, 1026, 1049, 1092, 1115, 1148, 1191, 1264, 1297, 1360, 1393]) (pc' := 1393) (st' := []) rfl rfl (by decide +kernel) (lc_41 hro hA hp k)
  | 42, _ => exact jJ_b (i := .tableswitch 1416 0 42 #[187, 220, 263, 296, 319, 352, 395, 428, 451, 464, 487, 500, 533, 566, 589, 612, 645, 668, 681, 704, 727, 770, 793, 826, 859, 882, 905, 938, 961, 974, 987, 1000, 1013, 1026, 1049, 1092, 1115, 1148, 1191, 1264, 1297, 1360, 1393]) (pc' := 1426) (st' := []) rfl rfl (by decide +kernel) (lc_42 hro hA hp k)
  | 43, _ => exact jJ_b (i := .tableswitch 1416 0 42 #[187, 220, 263, 296, 319, 352, 395, 428, 451, 464, 487, 500, 533, 566, 589, 612, 645, 668, 681, 704, 727, 770, 793, 826, 859, 882, 905, 938, 961, 974, 987, 1000, 1013, 1026, 1049, 1092, 1115, 1148, 1191, 1264, 1297, 1360, 1393]) (pc' := 1449) (st' := []) rfl rfl (by decide +kernel) (k p hp rfl)
  | 44, _ => exact jJ_b (i := .tableswitch 1416 0 42 #[187, 220, 263, 296, 319, 352, 395, 428, 451, 464, 487, 500, 533, 566, 589, 612, 645, 668, 681, 704, 727, 770, 793, 826, 859, 882, 905, 938, 961, 974, 987, 1000, 1013, 1026, 1049, 1092, 1115, 1148, 1191, 1264, 1297, 1360, 1393]) (pc' := 1449) (st' := []) rfl rfl (by decide +kernel) (k p hp rfl)
  | 45, _ => exact jJ_b (i := .tableswitch 1416 0 42 #[187, 220, 263, 296, 319, 352, 395, 428, 451, 464, 487, 500, 533, 566, 589, 612, 645, 668, 681, 704, 727, 770, 793, 826, 859, 882, 905, 938, 961, 974, 987, 1000, 1013, 1026, 1049, 1092, 1115, 1148, 1191, 1264, 1297, 1360, 1393]) (pc' := 1449) (st' := []) rfl rfl (by decide +kernel) (k p hp rfl)
  | 46, _ => exact jJ_b (i := .tableswitch 1416 0 42 #[187, 220, 263, 296, 319, 352, 395, 428, 451, 464, 487, 500, 533, 566, 589, 612, 645, 668, 681, 704, 727, 770, 793, 826, 859, 882, 905, 938, 961, 974, 987, 1000, 1013, 1026, 1049, 1092, 1115, 1148, 1191, 1264, 1297, 1360, 1393]) (pc' := 1449) (st' := []) rfl rfl (by decide +kernel) (k p hp rfl)
  | 47, _ => exact jJ_b (i := .tableswitch 1416 0 42 #[187, 220, 263, 296, 319, 352, 395, 428, 451, 464, 487, 500, 533, 566, 589, 612, 645, 668, 681, 704, 727, 770, 793, 826, 859, 882, 905, 938, 961, 974, 987, 1000, 1013, 1026, 1049, 1092, 1115, 1148, 1191, 1264, 1297, 1360, 1393]) (pc' := 1449) (st' := []) rfl rfl (by decide +kernel) (k p hp rfl)
  | 48, _ => exact jJ_b (i := .tableswitch 1416 0 42 #[187, 220, 263, 296, 319, 352, 395, 428, 451, 464, 487, 500, 533, 566, 589, 612, 645, 668, 681, 704, 727, 770, 793, 826, 859, 882, 905, 938, 961, 974, 987, 1000, 1013, 1026, 1049, 1092, 1115, 1148, 1191, 1264, 1297, 1360, 1393]) (pc' := 1449) (st' := []) rfl rfl (by decide +kernel) (k p hp rfl)
  | 49, _ => exact jJ_b (i := .tableswitch 1416 0 42 #[187, 220, 263, 296, 319, 352, 395, 428, 451, 464, 487, 500, 533, 566, 589, 612, 645, 668, 681, 704, 727, 770, 793, 826, 859, 882, 905, 938, 961, 974, 987, 1000, 1013, 1026, 1049, 1092, 1115, 1148, 1191, 1264, 1297, 1360, 1393]) (pc' := 1449) (st' := []) rfl rfl (by decide +kernel) (k p hp rfl)
  | 50, _ => exact jJ_b (i := .tableswitch 1416 0 42 #[187, 220, 263, 296, 319, 352, 395, 428, 451, 464, 487, 500, 533, 566, 589, 612, 645, 668, 681, 704, 727, 770, 793, 826, 859, 882, 905, 938, 961, 974, 987, 1000, 1013, 1026, 1049, 1092, 1115, 1148, 1191, 1264, 1297, 1360, 1393]) (pc' := 1449) (st' := []) rfl rfl (by decide +kernel) (k p hp rfl)
  | 51, _ => exact jJ_b (i := .tableswitch 1416 0 42 #[187, 220, 263, 296, 319, 352, 395, 428, 451, 464, 487, 500, 533, 566, 589, 612, 645, 668, 681, 704, 727, 770, 793, 826, 859, 882, 905, 938, 961, 974, 987, 1000, 1013, 1026, 1049, 1092, 1115, 1148, 1191, 1264, 1297, 1360, 1393]) (pc' := 1449) (st' := []) rfl rfl (by decide +kernel) (k p hp rfl)
  | 52, _ => exact jJ_b (i := .tableswitch 1416 0 42 #[187, 220, 263, 296, 319, 352, 395, 428, 451, 464, 487, 500, 533, 566, 589, 612, 645, 668, 681, 704, 727, 770, 793, 826, 859, 882, 905, 938, 961, 974, 987, 1000, 1013, 1026, 1049, 1092, 1115, 1148, 1191, 1264, 1297, 1360, 1393]) (pc' := 1449) (st' := []) rfl rfl (by decide +kernel) (k p hp rfl)
  | 53, _ => exact jJ_b (i := .tableswitch 1416 0 42 #[187, 220, 263, 296, 319, 352, 395, 428, 451, 464, 487, 500, 533, 566, 589, 612, 645, 668, 681, 704, 727, 770, 793, 826, 859, 882, 905, 938, 961, 974, 987, 1000, 1013, 1026, 1049, 1092, 1115, 1148, 1191, 1264, 1297, 1360, 1393]) (pc' := 1449) (st' := []) rfl rfl (by decide +kernel) (k p hp rfl)
  | 54, _ => exact jJ_b (i := .tableswitch 1416 0 42 #[187, 220, 263, 296, 319, 352, 395, 428, 451, 464, 487, 500, 533, 566, 589, 612, 645, 668, 681, 704, 727, 770, 793, 826, 859, 882, 905, 938, 961, 974, 987, 1000, 1013, 1026, 1049, 1092, 1115, 1148, 1191, 1264, 1297, 1360, 1393]) (pc' := 1449) (st' := []) rfl rfl (by decide +kernel) (k p hp rfl)
  | 55, _ => exact jJ_b (i := .tableswitch 1416 0 42 #[187, 220, 263, 296, 319, 352, 395, 428, 451, 464, 487, 500, 533, 566, 589, 612, 645, 668, 681, 704, 727, 770, 793, 826, 859, 882, 905, 938, 961, 974, 987, 1000, 1013, 1026, 1049, 1092, 1115, 1148, 1191, 1264, 1297, 1360, 1393]) (pc' := 1449) (st' := []) rfl rfl (by decide +kernel) (k p hp rfl)
  | 56, _ => exact jJ_b (i := .tableswitch 1416 0 42 #[187, 220, 263, 296, 319, 352, 395, 428, 451, 464, 487, 500, 533, 566, 589, 612, 645, 668, 681, 704, 727, 770, 793, 826, 859, 882, 905, 938, 961, 974, 987, 1000, 1013, 1026, 1049, 1092, 1115, 1148, 1191, 1264, 1297, 1360, 1393]) (pc' := 1449) (st' := []) rfl rfl (by decide +kernel) (k p hp rfl)
  | 57, _ => exact jJ_b (i := .tableswitch 1416 0 42 #[187, 220, 263, 296, 319, 352, 395, 428, 451, 464, 487, 500, 533, 566, 589, 612, 645, 668, 681, 704, 727, 770, 793, 826, 859, 882, 905, 938, 961, 974, 987, 1000, 1013, 1026, 1049, 1092, 1115, 1148, 1191, 1264, 1297, 1360, 1393]) (pc' := 1449) (st' := []) rfl rfl (by decide +kernel) (k p hp rfl)
  | 58, _ => exact jJ_b (i := .tableswitch 1416 0 42 #[187, 220, 263, 296, 319, 352, 395, 428, 451, 464, 487, 500, 533, 566, 589, 612, 645, 668, 681, 704, 727, 770, 793, 826, 859, 882, 905, 938, 961, 974, 987, 1000, 1013, 1026, 1049, 1092, 1115, 1148, 1191, 1264, 1297, 1360, 1393]) (pc' := 1449) (st' := []) rfl rfl (by decide +kernel) (k p hp rfl)
  | 59, _ => exact jJ_b (i := .tableswitch 1416 0 42 #[187, 220, 263, 296, 319, 352, 395, 428, 451, 464, 487, 500, 533, 566, 589, 612, 645, 668, 681, 704, 727, 770, 793, 826, 859, 882, 905, 938, 961, 974, 987, 1000, 1013, 1026, 1049, 1092, 1115, 1148, 1191, 1264, 1297, 1360, 1393]) (pc' := 1449) (st' := []) rfl rfl (by decide +kernel) (k p hp rfl)
  | 60, _ => exact jJ_b (i := .tableswitch 1416 0 42 #[187, 220, 263, 296, 319, 352, 395, 428, 451, 464, 487, 500, 533, 566, 589, 612, 645, 668, 681, 704, 727, 770, 793, 826, 859, 882, 905, 938, 961, 974, 987, 1000, 1013, 1026, 1049, 1092, 1115, 1148, 1191, 1264, 1297, 1360, 1393]) (pc' := 1449) (st' := []) rfl rfl (by decide +kernel) (k p hp rfl)
  | 61, _ => exact jJ_b (i := .tableswitch 1416 0 42 #[187, 220, 263, 296, 319, 352, 395, 428, 451, 464, 487, 500, 533, 566, 589, 612, 645, 668, 681, 704, 727, 770, 793, 826, 859, 882, 905, 938, 961, 974, 987, 1000, 1013, 1026, 1049, 1092, 1115, 1148, 1191, 1264, 1297, 1360, 1393]) (pc' := 1449) (st' := []) rfl rfl (by decide +kernel) (k p hp rfl)
  | 62, _ => exact jJ_b (i := .tableswitch 1416 0 42 #[187, 220, 263, 296, 319, 352, 395, 428, 451, 464, 487, 500, 533, 566, 589, 612, 645, 668, 681, 704, 727, 770, 793, 826, 859, 882, 905, 938, 961, 974, 987, 1000, 1013, 1026, 1049, 1092, 1115, 1148, 1191, 1264, 1297, 1360, 1393]) (pc' := 1449) (st' := []) rfl rfl (by decide +kernel) (k p hp rfl)
  | 63, _ => exact jJ_b (i := .tableswitch 1416 0 42 #[187, 220, 263, 296, 319, 352, 395, 428, 451, 464, 487, 500, 533, 566, 589, 612, 645, 668, 681, 704, 727, 770, 793, 826, 859, 882, 905, 938, 961, 974, 987, 1000, 1013, 1026, 1049, 1092, 1115, 1148, 1191, 1264, 1297, 1360, 1393]) (pc' := 1449) (st' := []) rfl rfl (by decide +kernel) (k p hp rfl)
  | n + 64, h => exact absurd h (by omega)
theorem law_end {ro : List (List Int32)} {Q : Option Value → xH → Prop} {xs : List Int32} (h0 : ro[0]? = some xs) (hL : xs.length ≤ 3072) {k : Nat} (hk : 6 * k ≤ 3078) {p : xH} (hQ : Q (some (.int 1)) p) (hlt : xs.length < 6 * k + 6) : LJ ro Q 18 (Int32.ofNat (6 * k)) [] p := by
  have e6 : (Int32.ofNat (6 * k)).toInt = ((6 * k : Nat) : Int) := Int32.toInt_ofNat_of_lt (by omega)
  have eL : (Int32.ofNat xs.length).toInt = (xs.length : Int) := Int32.toInt_ofNat_of_lt (by omega)
  have es : (Int32.ofNat xs.length - (Int8.ofInt 6).toInt32).toInt = (xs.length : Int) - 6 := by
    rw [Int32.toInt_sub, eL, show ((Int8.ofInt 6).toInt32).toInt = 6 from by decide]
    exact Int.bmod_eq_of_le (by omega) (by omega)
  have hv : xcmp .gt (Int32.ofNat (6 * k)) (Int32.ofNat xs.length - (Int8.ofInt 6).toInt32) = true := xcmp_j.mpr (by show _ < _; rw [e6, es]; push_cast; omega)
  refine jJ_s (i := .iload_n 3) (ls' := lsI _) (st' := [.int (Int32.ofNat (6 * k))]) rfl rfl ?_
  refine jJ_s (i := .aload_n 0) (ls' := lsI _) (st' := [.retAddr 0, .int (Int32.ofNat (6 * k))]) rfl rfl ?_
  refine jJ_h (i := .arraylength) (st' := [.int (Int32.ofNat xs.length), .int (Int32.ofNat (6 * k))]) (p' := p) rfl rfl rfl (by simp only [xho, h0]; rfl) ?_
  refine jJ_s (i := .bipush 6) (ls' := lsI _) (st' := [.int (Int8.ofInt 6).toInt32, .int (Int32.ofNat xs.length), .int (Int32.ofNat (6 * k))]) rfl rfl ?_
  refine jJ_s (i := .isub) (ls' := lsI _) (st' := [.int (Int32.ofNat xs.length - (Int8.ofInt 6).toInt32), .int (Int32.ofNat (6 * k))]) rfl rfl ?_
  refine jJ_b (i := .if_icmp .gt 1431) (pc' := 1455) (st' := []) rfl rfl ?_ ?_
  · show (xtg 24 1431).map (fun t => (bif xcmp .gt (Int32.ofNat (6 * k)) (Int32.ofNat xs.length - (Int8.ofInt 6).toInt32) then t else 27, ([] : List Value))) = _
    rw [hv]; rfl
  · refine jJ_s (i := .iconst 1) (ls' := lsI _) (st' := [.int 1]) rfl rfl ?_
    exact jJ_r (i := .ireturn) rfl rfl rfl rfl rfl hQ
theorem law_one {ro : List (List Int32)} {Q : Option Value → xH → Prop} {xs : List Int32} (hro : jro ro) (h0 : ro[0]? = some xs) (hL : xs.length ≤ 3072) {k : Nat} (hlt : 6 * k + 6 ≤ xs.length) {p : xH} (hp : jIv p) (kk : ∀ p2, jIv p2 → jSh p2 = jSh p → LJ ro Q 18 (Int32.ofNat (6 * (k + 1))) [] p2) : LJ ro Q 18 (Int32.ofNat (6 * k)) [] p := by
  have e6 : (Int32.ofNat (6 * k)).toInt = ((6 * k : Nat) : Int) := Int32.toInt_ofNat_of_lt (by omega)
  have eL : (Int32.ofNat xs.length).toInt = (xs.length : Int) := Int32.toInt_ofNat_of_lt (by omega)
  have es : (Int32.ofNat xs.length - (Int8.ofInt 6).toInt32).toInt = (xs.length : Int) - 6 := by
    rw [Int32.toInt_sub, eL, show ((Int8.ofInt 6).toInt32).toInt = 6 from by decide]
    exact Int.bmod_eq_of_le (by omega) (by omega)
  have hv : xcmp .gt (Int32.ofNat (6 * k)) (Int32.ofNat xs.length - (Int8.ofInt 6).toInt32) = false := by
    cases hc : xcmp .gt (Int32.ofNat (6 * k)) (Int32.ofNat xs.length - (Int8.ofInt 6).toInt32) with
    | false => rfl
    | true => have h1 : _ < _ := xcmp_j.mp hc; rw [e6, es] at h1; push_cast at h1; omega
  have hA : jRd ro (Int32.ofNat (6 * k)) (fun c => xs.getD (6 * k + c) 0) := by
    refine ⟨xs, h0, fun c hc => ?_⟩
    have ec : (Int32.ofNat c).toInt = (c : Int) := Int32.toInt_ofNat_of_lt (by omega)
    have e1 : (Int32.ofNat (6 * k) + Int32.ofNat c).toInt = ((6 * k + c : Nat) : Int) := by
      rw [Int32.toInt_add, e6, ec, show ((6 * k : Nat) : Int) + (c : Int) = ((6 * k + c : Nat) : Int) by push_cast; rfl]
      exact Int.bmod_eq_of_le (by omega) (by omega)
    refine ⟨jnneg (by omega), ?_⟩
    have e2 : (Int32.ofNat (6 * k) + Int32.ofNat c).toNatClampNeg = 6 * k + c := by
      have := jclamp (x := Int32.ofNat (6 * k) + Int32.ofNat c) (by omega)
      omega
    show xs[(Int32.ofNat (6 * k) + Int32.ofNat c).toNatClampNeg]? = some (xs.getD (6 * k + c) 0)
    rw [e2, List.getD_eq_getElem?_getD, List.getElem?_eq_getElem (by omega : 6 * k + c < xs.length)]
    rfl
  have hA0 : ¬ (Int32.ofNat (6 * k)) < 0 ∧ xs[(Int32.ofNat (6 * k)).toNatClampNeg]? = some (xs.getD (6 * k) 0) := by
    refine ⟨jnneg (by omega), ?_⟩
    have e2 : (Int32.ofNat (6 * k)).toNatClampNeg = 6 * k := by
      have := jclamp (x := Int32.ofNat (6 * k)) (by omega)
      omega
    rw [e2, List.getD_eq_getElem?_getD, List.getElem?_eq_getElem (by omega : 6 * k < xs.length)]
    rfl
  refine jJ_s (i := .iload_n 3) (ls' := lsI _) (st' := [.int (Int32.ofNat (6 * k))]) rfl rfl ?_
  refine jJ_s (i := .aload_n 0) (ls' := lsI _) (st' := [.retAddr 0, .int (Int32.ofNat (6 * k))]) rfl rfl ?_
  refine jJ_h (i := .arraylength) (st' := [.int (Int32.ofNat xs.length), .int (Int32.ofNat (6 * k))]) (p' := p) rfl rfl rfl (by simp only [xho, h0]; rfl) ?_
  refine jJ_s (i := .bipush 6) (ls' := lsI _) (st' := [.int (Int8.ofInt 6).toInt32, .int (Int32.ofNat xs.length), .int (Int32.ofNat (6 * k))]) rfl rfl ?_
  refine jJ_s (i := .isub) (ls' := lsI _) (st' := [.int (Int32.ofNat xs.length - (Int8.ofInt 6).toInt32), .int (Int32.ofNat (6 * k))]) rfl rfl ?_
  refine jJ_b (i := .if_icmp .gt 1431) (pc' := 27) (st' := []) rfl rfl ?_ ?_
  · show (xtg 24 1431).map (fun t => (bif xcmp .gt (Int32.ofNat (6 * k)) (Int32.ofNat xs.length - (Int8.ofInt 6).toInt32) then t else 27, ([] : List Value))) = _
    rw [hv]; rfl
  refine jJ_s (i := .aload_n 0) (ls' := lsI _) (st' := [.retAddr 0]) rfl rfl ?_
  refine jJ_s (i := .iload_n 3) (ls' := lsI _) (st' := [.int (Int32.ofNat (6 * k)), .retAddr 0]) rfl rfl ?_
  refine jJ_h (i := .iaload) (st' := [.int (xs.getD (6 * k) 0)]) (p' := p) rfl rfl rfl (by simp only [xho, h0]; rw [if_neg hA0.1, hA0.2]; rfl) ?_
  refine jJ_s (i := .bipush 63) (ls' := lsI _) (st' := [.int (Int8.ofInt 63).toInt32, .int (xs.getD (6 * k) 0)]) rfl rfl ?_
  refine jJ_s (i := .iand) (ls' := lsI _) (st' := [.int (xs.getD (6 * k) 0 &&& (Int8.ofInt 63).toInt32)]) rfl rfl ?_
  obtain ⟨n, hn, hn2⟩ := low63 (xs.getD (6 * k) 0)
  rw [hn2]
  refine law_sw hro hA hp (fun p2 hp2 hs2 => ?_) n hn
  have e8 : Int32.ofNat (6 * k) + Int32.ofInt 6 = Int32.ofNat (6 * (k + 1)) := by
    apply Int32.toInt_inj.mp
    rw [Int32.toInt_add, e6, show (Int32.ofInt 6).toInt = 6 from by decide, Int32.toInt_ofNat_of_lt (by omega), show ((6 * k : Nat) : Int) + 6 = ((6 * (k + 1) : Nat) : Int) by push_cast; omega]
    exact Int.bmod_eq_of_le (by omega) (by omega)
  refine jJ_s (i := .iinc 3 6) (ls' := lsI (Int32.ofNat (6 * k) + Int32.ofInt 6)) (st' := []) rfl rfl ?_
  rw [e8]
  exact jJ_b (i := .goto (-1434)) (pc' := 18) (st' := []) rfl rfl rfl (kk p2 hp2 hs2)
theorem law_loop {ro : List (List Int32)} {Q : Option Value → xH → Prop} {xs : List Int32} (hro : jro ro) (h0 : ro[0]? = some xs) (hL : xs.length ≤ 3072) {p0 : xH} (hQ : ∀ p, jSh p = jSh p0 → Q (some (.int 1)) p) : ∀ (m k : Nat) (p : xH), 6 * k ≤ xs.length + 5 → xs.length < 6 * k + 6 * m + 6 → jIv p → jSh p = jSh p0 → LJ ro Q 18 (Int32.ofNat (6 * k)) [] p := by
  intro m
  induction m with
  | zero => intro k p h1 h2 hp hs; exact law_end h0 hL (by omega) (hQ p hs) (by omega)
  | succ m ih =>
    intro k p h1 h2 hp hs
    by_cases hlt : 6 * k + 6 ≤ xs.length
    · exact law_one hro h0 hL hlt hp (fun p2 hp2 hs2 => ih (k + 1) p2 (by omega) (by omega) hp2 (hs2.trans hs))
    · exact law_end h0 hL (by omega) (hQ p hs) (by omega)
theorem law_ev (xs : List Int32) (hL : xs.length ≤ 3072) : ∃ (n d : Nat) (h2 : xH), d ≤ 800 ∧ ev [xs, xsv1, xsv2] n d xqL 0 [(0, .retAddr 0)] [] [] = some (some (.int 1), h2) ∧ h2.length ≤ 600000 ∧ xsl h2 ≤ 7302250 := by
  have hro : jro [xs, xsv1, xsv2] := ⟨rfl, rfl⟩
  obtain ⟨n, x, e, hk⟩ := law_top (Q := fun r p => r = some (.int 1) ∧ jSh p = jSh xhA) (law_loop hro rfl hL (fun p hs => ⟨rfl, hs⟩) 512 0 xhA (by omega) (by omega) ⟨⟨xhA_gh, xhA_rl⟩, RR_0⟩ rfl)
  obtain ⟨h1, h2⟩ := hk
  obtain ⟨r, p⟩ := x
  have h1 : r = some (.int 1) := h1
  subst h1
  have h3 : p.map (fun c => c.2.length) = xhA.map (fun c => c.2.length) := by
    have := congrArg (List.map Prod.snd) h2
    simpa [jSh, List.map_map, Function.comp_def] using this
  refine ⟨n, 60, p, by decide, e, ?_, ?_⟩
  · have := xhA_len.1
    rw [← h3, List.length_map] at this
    exact this
  · have := xhA_len.2
    rw [← h3] at this
    exact this
end
