/-! the law over the pure machine: it answers 1 -/
theorem law_top {ro : List (List Int32)} {x : Option Value × xH} (e18 : ev ro 7010 14 xqL 18 lwL [] xhA = some x) : ev ro 7022 14 xqL 0 [(0, .retAddr 0)] [] [] = some x := by
  have e17 : ev ro 7011 14 xqL 17 [(2, .ref 66), (1, .ref 0), (0, .retAddr 0)] [.int 0] xhA = some x := (ev_s (i := .istore_n 3) rfl rfl).trans e18
  have e16 : ev ro 7012 14 xqL 16 [(2, .ref 66), (1, .ref 0), (0, .retAddr 0)] [] xhA = some x := (ev_s (i := .iconst 0) rfl rfl).trans e17
  have e15 : ev ro 7013 14 xqL 15 [(1, .ref 0), (0, .retAddr 0)] [.ref 66] xhA = some x := (ev_s (i := .astore_n 2) rfl rfl).trans e16
  have cM : ev ro 7013 13 xq_M 0 (lv_args 0 [.ref 66]) [] (xhX ++ [(12, xd_M)]) = some (none, xhA) := ev_mores 4506 (ev_ro _ ctor_M)
  have e12 : ev ro 7014 14 xqL 12 [(1, .ref 0), (0, .retAddr 0)] [.ref 66, .ref 66] (xhX ++ [(12, xd_M)]) = some x := (ev_c (i := .invokespecial 12) rfl rfl rfl rfl rfl rfl rfl rfl rfl rfl cM).trans e15
  have e11 : ev ro 7015 14 xqL 11 [(1, .ref 0), (0, .retAddr 0)] [.ref 66] (xhX ++ [(12, xd_M)]) = some x := (ev_s (i := .dup) rfl rfl).trans e12
  have e8 : ev ro 7016 14 xqL 8 [(1, .ref 0), (0, .retAddr 0)] [] xhX = some x := (ev_h (i := .new 10) rfl rfl rfl rfl).trans e11
  have e7 : ev ro 7017 14 xqL 7 [(0, .retAddr 0)] [.ref 0] xhX = some x := (ev_s (i := .astore_n 1) rfl rfl).trans e8
  have cX : ev ro 7017 13 xq_X 0 (lv_args 0 [.ref 0]) [] [(11, xd_X)] = some (none, xhX) := ev_mores 2237 (ev_ro _ ctor_X)
  have e4 : ev ro 7018 14 xqL 4 [(0, .retAddr 0)] [.ref 0, .ref 0] [(11, xd_X)] = some x := (ev_c (i := .invokespecial 9) rfl rfl rfl rfl rfl rfl rfl rfl rfl rfl cX).trans e7
  have e3 : ev ro 7019 14 xqL 3 [(0, .retAddr 0)] [.ref 0] [(11, xd_X)] = some x := (ev_s (i := .dup) rfl rfl).trans e4
  have e0 : ev ro 7020 14 xqL 0 [(0, .retAddr 0)] [] [] = some x := (ev_h (i := .new 7) rfl rfl rfl rfl).trans e3
  exact ev_mores 2 e0
theorem law_short (xs : List Int32) (hL : xs.length < 6) : ev [xs] 7010 14 xqL 18 lwL [] xhA = some (some (.int 1), xhA) := by
  have hv : xcmp .gt (0 : Int32) (Int32.ofNat xs.length - (Int8.ofInt 6).toInt32) = true := by
    match xs.length, hL with
    | 0, _ => decide
    | 1, _ => decide
    | 2, _ => decide
    | 3, _ => decide
    | 4, _ => decide
    | 5, _ => decide
    | n + 6, h => exact absurd h (by omega)
  have f2 : ev [xs] 7003 14 xqL 1457 lwL [.int 1] xhA = some (some (.int 1), xhA) := ev_r (i := .ireturn) rfl rfl rfl rfl rfl
  have f1 : ev [xs] 7004 14 xqL 1456 lwL [] xhA = some (some (.int 1), xhA) := (ev_s (i := .iconst 1) rfl rfl).trans f2
  have e24 : ev [xs] 7005 14 xqL 24 lwL [.int (Int32.ofNat xs.length - (Int8.ofInt 6).toInt32), .int 0] xhA = some (some (.int 1), xhA) := (ev_b (i := .if_icmp .gt 1432) (pc' := 1456) rfl rfl (by
    show (xtg 24 1432).map (fun t => (bif xcmp .gt (0 : Int32) (Int32.ofNat xs.length - (Int8.ofInt 6).toInt32) then t else 27, ([] : List Value))) = _
    rw [hv]; rfl)).trans f1
  have e23 : ev [xs] 7006 14 xqL 23 lwL [.int (Int8.ofInt 6).toInt32, .int (Int32.ofNat xs.length), .int 0] xhA = some (some (.int 1), xhA) := (ev_s (i := .isub) rfl rfl).trans e24
  have e21 : ev [xs] 7007 14 xqL 21 lwL [.int (Int32.ofNat xs.length), .int 0] xhA = some (some (.int 1), xhA) := (ev_s (i := .bipush 6) rfl rfl).trans e23
  have e20 : ev [xs] 7008 14 xqL 20 lwL [.retAddr 0, .int 0] xhA = some (some (.int 1), xhA) := (ev_h (i := .arraylength) rfl rfl rfl rfl).trans e21
  have e19 : ev [xs] 7009 14 xqL 19 lwL [.int 0] xhA = some (some (.int 1), xhA) := (ev_s (i := .aload_n 0) rfl rfl).trans e20
  exact (ev_s (i := .iload_n 3) rfl rfl).trans e19
theorem law_six (a0 a1 a2 a3 a4 a5 : Int32) {x : Option Value × xH} (e33 : ev [[a0, a1, a2, a3, a4, a5]] 6998 14 xqL 33 lwL [.int (a0 &&& (Int8.ofInt 63).toInt32)] xhA = some x) : ev [[a0, a1, a2, a3, a4, a5]] 7010 14 xqL 18 lwL [] xhA = some x := by
  have e32 : ev [[a0, a1, a2, a3, a4, a5]] 6999 14 xqL 32 lwL [.int (Int8.ofInt 63).toInt32, .int a0] xhA = some x := (ev_s (i := .iand) rfl rfl).trans e33
  have e30 : ev [[a0, a1, a2, a3, a4, a5]] 7000 14 xqL 30 lwL [.int a0] xhA = some x := (ev_s (i := .bipush 63) rfl rfl).trans e32
  have e29 : ev [[a0, a1, a2, a3, a4, a5]] 7001 14 xqL 29 lwL [.int 0, .retAddr 0] xhA = some x := (ev_h (i := .iaload) rfl rfl rfl rfl).trans e30
  have e28 : ev [[a0, a1, a2, a3, a4, a5]] 7002 14 xqL 28 lwL [.retAddr 0] xhA = some x := (ev_s (i := .iload_n 3) rfl rfl).trans e29
  have e27 : ev [[a0, a1, a2, a3, a4, a5]] 7003 14 xqL 27 lwL [] xhA = some x := (ev_s (i := .aload_n 0) rfl rfl).trans e28
  have e24 : ev [[a0, a1, a2, a3, a4, a5]] 7004 14 xqL 24 lwL [.int (Int32.ofNat 6 - (Int8.ofInt 6).toInt32), .int 0] xhA = some x := (ev_b (i := .if_icmp .gt 1432) (pc' := 27) rfl rfl rfl).trans e27
  have e23 : ev [[a0, a1, a2, a3, a4, a5]] 7005 14 xqL 23 lwL [.int (Int8.ofInt 6).toInt32, .int (Int32.ofNat 6), .int 0] xhA = some x := (ev_s (i := .isub) rfl rfl).trans e24
  have e21 : ev [[a0, a1, a2, a3, a4, a5]] 7006 14 xqL 21 lwL [.int (Int32.ofNat 6), .int 0] xhA = some x := (ev_s (i := .bipush 6) rfl rfl).trans e23
  have e20 : ev [[a0, a1, a2, a3, a4, a5]] 7007 14 xqL 20 lwL [.retAddr 0, .int 0] xhA = some x := (ev_h (i := .arraylength) rfl rfl rfl rfl).trans e21
  have e19 : ev [[a0, a1, a2, a3, a4, a5]] 7008 14 xqL 19 lwL [.int 0] xhA = some x := (ev_s (i := .aload_n 0) rfl rfl).trans e20
  have e18 : ev [[a0, a1, a2, a3, a4, a5]] 7009 14 xqL 18 lwL [] xhA = some x := (ev_s (i := .iload_n 3) rfl rfl).trans e19
  exact ev_mores 1 e18
/-- the six low bits of an int -/
theorem low63 (a : Int32) : ∃ k : Nat, k < 64 ∧ a &&& (Int8.ofInt 63).toInt32 = Int32.ofNat k := by
  obtain ⟨⟨v⟩⟩ := a
  refine ⟨(v &&& 63#32).toNat, ?_, ?_⟩
  · rw [BitVec.toNat_and]
    exact Nat.lt_of_le_of_lt Nat.and_le_right (by decide)
  · have h : BitVec.ofNat 32 (v &&& 63#32).toNat = v &&& 63#32 := by simp
    show (⟨⟨v &&& 63#32⟩⟩ : Int32) = ⟨⟨BitVec.ofNat 32 _⟩⟩
    rw [h]
/-- any call on fresh objects -/
theorem law_k : ∀ k : Nat, k < 64 → ∀ a0 a1 a2 a3 a4 a5 : Int32, ∃ h2, ev [[a0, a1, a2, a3, a4, a5]] 4000 14 xqL 33 lwL [.int (Int32.ofNat k)] xhA = some (some (.int 1), h2) ∧ h2.length ≤ 600000 ∧ xsl h2 ≤ 7302250 := by
  intro k hk
  match k, hk with
  | 0, _ => exact abx_ok op_0
  | 1, _ => exact abx_ok op_1
  | 2, _ => exact abx_ok op_2
  | 3, _ => exact abx_ok op_3
  | 4, _ => exact abx_ok op_4
  | 5, _ => exact abx_ok op_5
  | 6, _ => exact abx_ok op_6
  | 7, _ => exact abx_ok op_7
  | 8, _ => exact abx_ok op_8
  | 9, _ => exact abx_ok op_9
  | 10, _ => exact abx_ok op_10
  | 11, _ => exact abx_ok op_11
  | 12, _ => exact abx_ok op_12
  | 13, _ => exact abx_ok op_13
  | 14, _ => exact abx_ok op_14
  | 15, _ => exact abx_ok op_15
  | 16, _ => exact abx_ok op_16
  | 17, _ => exact abx_ok op_17
  | 18, _ => exact abx_ok op_18
  | 19, _ => exact abx_ok op_19
  | 20, _ => exact abx_ok op_20
  | 21, _ => exact abx_ok op_21
  | 22, _ => exact abx_ok op_22
  | 23, _ => exact abx_ok op_23
  | 24, _ => exact abx_ok op_24
  | 25, _ => exact abx_ok op_25
  | 26, _ => exact abx_ok op_26
  | 27, _ => exact abx_ok op_27
  | 28, _ => exact abx_ok op_28
  | 29, _ => exact abx_ok op_29
  | 30, _ => exact abx_ok op_30
  | 31, _ => exact abx_ok op_31
  | 32, _ => exact abx_ok op_32
  | 33, _ => exact abx_ok op_33
  | 34, _ => exact abx_ok op_34
  | 35, _ => exact abx_ok op_35
  | 36, _ => exact abx_ok op_36
  | 37, _ => exact abx_ok op_37
  | 38, _ => exact abx_ok op_38
  | 39, _ => exact abx_ok op_39
  | 40, _ => exact abx_ok op_40
  | 41, _ => exact abx_ok op_41
  | 42, _ => exact abx_ok op_42
  | 43, _ => exact abx_ok op_43
  | 44, _ => exact abx_ok op_44
  | 45, _ => exact abx_ok op_45
  | 46, _ => exact abx_ok op_46
  | 47, _ => exact abx_ok op_47
  | 48, _ => exact abx_ok op_48
  | 49, _ => exact abx_ok op_49
  | 50, _ => exact abx_ok op_50
  | 51, _ => exact abx_ok op_51
  | 52, _ => exact abx_ok op_52
  | 53, _ => exact abx_ok op_53
  | 54, _ => exact abx_ok op_54
  | 55, _ => exact abx_ok op_55
  | 56, _ => exact abx_ok op_56
  | 57, _ => exact abx_ok op_57
  | 58, _ => exact abx_ok op_58
  | 59, _ => exact abx_ok op_59
  | 60, _ => exact abx_ok op_60
  | 61, _ => exact abx_ok op_61
  | 62, _ => exact abx_ok op_62
  | 63, _ => exact abx_ok op_63
  | n + 64, h => exact absurd h (by omega)
theorem law_ev (xs : List Int32) (hL : xs.length ≤ 6) : ∃ (n d : Nat) (h2 : xH), d ≤ 800 ∧ ev [xs] n d xqL 0 [(0, .retAddr 0)] [] [] = some (some (.int 1), h2) ∧ h2.length ≤ 600000 ∧ xsl h2 ≤ 7302250 := by
  by_cases h6 : xs.length < 6
  · refine ⟨7022, 14, xhA, by decide, law_top (law_short xs h6), ?_, ?_⟩
    · have := xhA_len.1
      rwa [List.length_map] at this
    · exact xhA_len.2
  · match xs, hL, h6 with
    | [a0, a1, a2, a3, a4, a5], _, _ =>
      obtain ⟨k, hk, hk2⟩ := low63 a0
      obtain ⟨h2, e1, e2, e3⟩ := law_k k hk a0 a1 a2 a3 a4 a5
      rw [← hk2] at e1
      exact ⟨7022, 14, h2, by decide, law_top (law_six a0 a1 a2 a3 a4 a5 (ev_mores 2998 e1)), e2, e3⟩
    | [], _, h => exact absurd (by simp) h
    | [_], _, h => exact absurd (by simp) h
    | [_, _], _, h => exact absurd (by simp) h
    | [_, _, _], _, h => exact absurd (by simp) h
    | [_, _, _, _], _, h => exact absurd (by simp) h
    | [_, _, _, _, _], _, h => exact absurd (by simp) h
    | _ :: _ :: _ :: _ :: _ :: _ :: _ :: _, h, _ => simp at h
