/-- holds -/
noncomputable def kc_0 : jC := (43, 2, [.inl (.ref 20), .inr (0, (-2147483648), 2147483647), .inr (0, (-2147483648), 2147483647), .inr (0, (-2147483648), 2147483647), .inr (0, (-2147483648), 2147483647), .inr (0, (-2147483648), 2147483647)], [], [(20, 4), (23, 9999), (24, 9999)], [(some (0, 0, 1), [])])
noncomputable def kl_0 : List jA := [((43, 92), [(7, 0, 9999), (8, 0, 128)], [], [(20, 4)], [], true, 1)]
noncomputable def ks_0 : List ((Nat × Nat) × Nat) := [((215, 22), 99)]
/-- isAfter -/
noncomputable def kc_1 : jC := (49, 3, [.inl (.ref 32), .inr (0, 0, 6), .inr (0, 0, 6), .inr (0, 0, 12)], [], [(20, 4), (23, 9999), (24, 9999)], [(some (0, 0, 1), [])])
noncomputable def kl_1 : List jA := []
noncomputable def ks_1 : List ((Nat × Nat) × Nat) := [((215, 22), 99)]
/-- isWith -/
noncomputable def kc_2 : jC := (50, 3, [.inl (.ref 32), .inr (0, 0, 6), .inr (0, (-2147483648), 2147483647), .inr (0, 0, 6), .inr (0, (-2147483648), 2147483647)], [], [(20, 4), (23, 9999), (24, 9999)], [(some (0, 0, 1), [])])
noncomputable def kl_2 : List jA := []
noncomputable def ks_2 : List ((Nat × Nat) × Nat) := [((215, 22), 99)]
/-- lookAround -/
noncomputable def kc_3 : jC := (52, 4, [.inl (.ref 32)], [], [(20, 4), (23, 9999), (24, 9999), (33, 9999)], [(none, [])])
noncomputable def kl_3 : List jA := [((52, 2), [(1, 0, 7)], [], [], [], true, 0), ((52, 23), [(1, 0, 7)], [], [], [], true, 0), ((52, 38), [(2, 1, 7)], [], [], [], true, 0)]
noncomputable def ks_3 : List ((Nat × Nat) × Nat) := [((215, 22), 99)]
/-- pairsAfter -/
noncomputable def kc_4 : jC := (53, 4, [.inl (.ref 32), .inr (0, 0, 12)], [], [(20, 4), (23, 9999), (24, 9999)], [(some (0, (-2147483648), 2147483647), [])])
noncomputable def kl_4 : List jA := [((53, 4), [(2, (-2147483648), 2147483647), (3, 0, 7)], [], [], [], true, 1), ((53, 20), [(2, (-2147483648), 2147483647), (4, 1, 7)], [], [], [], true, 1)]
noncomputable def ks_4 : List ((Nat × Nat) × Nat) := [((215, 22), 99)]
/-- isKind -/
noncomputable def kc_5 : jC := (55, 0, [.inl (.ref 32), .inr (0, (-2147483648), 2147483647)], [], [], [(some (0, 0, 1), [])])
noncomputable def kl_5 : List jA := [((55, 2), [(2, 0, 7)], [], [], [], true, 0)]
noncomputable def ks_5 : List ((Nat × Nat) × Nat) := [((215, 22), 99)]
/-- takeTurn -/
noncomputable def kc_6 : jC := (26, 1, [.inl (.ref 34), .inr (0, 0, 6), .inr (0, (-2147483648), 2147483647)], [], [(35, 9999), (36, 9999), (37, 9999), (38, 9999), (39, 9999)], [(some (0, (-2147483648), 2147483647), [])])
noncomputable def kl_6 : List jA := [((12, 4), [(2, (-2147483648), 2147483647), (3, 0, 4)], [], [], [], true, 1), ((26, 10), [(3, 0, 30), (4, 0, 4)], [], [(36, 9999)], [], true, 1), ((27, 2), [(2, 0, 5)], [], [], [], true, 0), ((28, 5), [(3, (-2147483648), 2147483647), (4, 0, 7)], [], [], [], true, 1), ((29, 9), [(4, 0, 31)], [], [], [], true, 0)]
noncomputable def ks_6 : List ((Nat × Nat) × Nat) := [((215, 22), 99)]
/-- layWithout -/
noncomputable def kc_7 : jC := (25, 2, [.inl (.ref 34), .inr (0, (-2147483648), 2147483647)], [], [(35, 9999), (36, 9999), (37, 9999), (38, 9999), (39, 9999)], [(none, [])])
noncomputable def kl_7 : List jA := [((25, 4), [(2, 0, 127), (3, 0, 7)], [], [], [], true, 1)]
noncomputable def ks_7 : List ((Nat × Nat) × Nat) := [((215, 22), 99)]
/-- leastToCome -/
noncomputable def kc_8 : jC := (37, 2, [.inl (.ref 34), .inr (0, (-2147483648), 2147483647), .inr (0, (-2147483648), 2147483647)], [], [(35, 9999), (36, 9999), (37, 9999), (38, 9999), (39, 9999)], [(some (0, (-2147483648), 2147483647), [])])
noncomputable def kl_8 : List jA := [((37, 5), [(3, (-2147483648), 2147483647), (4, 0, 7)], [], [], [], true, 1)]
noncomputable def ks_8 : List ((Nat × Nat) × Nat) := [((215, 22), 99)]
/-- orderFrom7 -/
noncomputable def kc_9 : jC := (35, 1, [.inl (.ref 34), .inr (0, 7, 7), .inr (0, (-2147483648), 2147483647), .inr (0, (-2147483648), 2147483647)], [], [(34, 9), (41, 9999)], [(none, [])])
noncomputable def kl_9 : List jA := [((38, 16), [(2, 0, 7)], [], [], [], true, 0)]
noncomputable def ks_9 : List ((Nat × Nat) × Nat) := [((215, 22), 99)]
/-- orderFrom6 -/
noncomputable def kc_10 : jC := (35, 3, [.inl (.ref 34), .inr (0, 6, 6), .inr (0, (-2147483648), 2147483647), .inr (0, (-2147483648), 2147483647)], [], [(34, 9), (35, 9999), (36, 9999), (37, 9999), (38, 9999), (39, 9999), (40, 9999), (41, 9999)], [(none, [])])
noncomputable def kl_10 : List jA := [((35, 34), [(4, 0, 7)], [], [(34, 9)], [], true, 0), ((38, 16), [(2, 0, 6)], [], [], [], true, 0)]
noncomputable def ks_10 : List ((Nat × Nat) × Nat) := [((215, 22), 99)]
/-- orderFrom5 -/
noncomputable def kc_11 : jC := (35, 5, [.inl (.ref 34), .inr (0, 5, 5), .inr (0, (-2147483648), 2147483647), .inr (0, (-2147483648), 2147483647)], [], [(34, 9), (35, 9999), (36, 9999), (37, 9999), (38, 9999), (39, 9999), (40, 9999), (41, 9999)], [(none, [])])
noncomputable def kl_11 : List jA := [((35, 34), [(4, 0, 7)], [], [(34, 9)], [], true, 0), ((38, 16), [(2, 0, 5)], [], [], [], true, 0)]
noncomputable def ks_11 : List ((Nat × Nat) × Nat) := [((215, 22), 99)]
/-- orderFrom4 -/
noncomputable def kc_12 : jC := (35, 7, [.inl (.ref 34), .inr (0, 4, 4), .inr (0, (-2147483648), 2147483647), .inr (0, (-2147483648), 2147483647)], [], [(34, 9), (35, 9999), (36, 9999), (37, 9999), (38, 9999), (39, 9999), (40, 9999), (41, 9999)], [(none, [])])
noncomputable def kl_12 : List jA := [((35, 34), [(4, 0, 7)], [], [(34, 9)], [], true, 0), ((38, 16), [(2, 0, 4)], [], [], [], true, 0)]
noncomputable def ks_12 : List ((Nat × Nat) × Nat) := [((215, 22), 99)]
/-- orderFrom3 -/
noncomputable def kc_13 : jC := (35, 9, [.inl (.ref 34), .inr (0, 3, 3), .inr (0, (-2147483648), 2147483647), .inr (0, (-2147483648), 2147483647)], [], [(34, 9), (35, 9999), (36, 9999), (37, 9999), (38, 9999), (39, 9999), (40, 9999), (41, 9999)], [(none, [])])
noncomputable def kl_13 : List jA := [((35, 34), [(4, 0, 7)], [], [(34, 9)], [], true, 0), ((38, 16), [(2, 0, 3)], [], [], [], true, 0)]
noncomputable def ks_13 : List ((Nat × Nat) × Nat) := [((215, 22), 99)]
/-- orderFrom2 -/
noncomputable def kc_14 : jC := (35, 11, [.inl (.ref 34), .inr (0, 2, 2), .inr (0, (-2147483648), 2147483647), .inr (0, (-2147483648), 2147483647)], [], [(34, 9), (35, 9999), (36, 9999), (37, 9999), (38, 9999), (39, 9999), (40, 9999), (41, 9999)], [(none, [])])
noncomputable def kl_14 : List jA := [((35, 34), [(4, 0, 7)], [], [(34, 9)], [], true, 0), ((38, 16), [(2, 0, 2)], [], [], [], true, 0)]
noncomputable def ks_14 : List ((Nat × Nat) × Nat) := [((215, 22), 99)]
/-- orderFrom1 -/
noncomputable def kc_15 : jC := (35, 13, [.inl (.ref 34), .inr (0, 1, 1), .inr (0, (-2147483648), 2147483647), .inr (0, (-2147483648), 2147483647)], [], [(34, 9), (35, 9999), (36, 9999), (37, 9999), (38, 9999), (39, 9999), (40, 9999), (41, 9999)], [(none, [])])
noncomputable def kl_15 : List jA := [((35, 34), [(4, 0, 7)], [], [(34, 9)], [], true, 0), ((38, 16), [(2, 0, 1)], [], [], [], true, 0)]
noncomputable def ks_15 : List ((Nat × Nat) × Nat) := [((215, 22), 99)]
/-- orderFrom0 -/
noncomputable def kc_16 : jC := (35, 15, [.inl (.ref 34), .inr (0, 0, 0), .inr (0, (-2147483648), 2147483647), .inr (0, (-2147483648), 2147483647)], [], [(34, 9), (35, 9999), (36, 9999), (37, 9999), (38, 9999), (39, 9999), (40, 9999), (41, 9999)], [(none, [])])
noncomputable def kl_16 : List jA := [((35, 34), [(4, 0, 7)], [], [(34, 9)], [], true, 0)]
noncomputable def ks_16 : List ((Nat × Nat) × Nat) := [((215, 22), 99)]
/-- findClashes -/
noncomputable def kc_17 : jC := (119, 4, [.inl (.ref 44), .inr (0, 0, 6), .inr (0, 0, 6)], [], [(20, 4), (23, 9999), (24, 9999), (45, 9999)], [(none, [])])
noncomputable def kl_17 : List jA := [((119, 19), [(3, 1, 7)], [], [], [], true, 0), ((119, 36), [(4, 0, 127), (5, 0, 7)], [], [], [], true, 1)]
noncomputable def ks_17 : List ((Nat × Nat) × Nat) := [((215, 22), 99)]
/-- mustWear -/
noncomputable def kc_18 : jC := (123, 0, [.inl (.ref 44), .inr (0, 0, 7)], [], [], [(some (0, (-2147483648), 2147483647), [])])
noncomputable def kl_18 : List jA := [((123, 4), [(2, (-2147483648), 2147483647), (3, 0, 7)], [], [], [], true, 1)]
noncomputable def ks_18 : List ((Nat × Nat) × Nat) := [((215, 22), 99)]
/-- leavesFree -/
noncomputable def kc_19 : jC := (122, 0, [.inl (.ref 44), .inr (0, 0, 6), .inr (0, 0, 6)], [], [(46, 9999)], [(some (0, 0, 1), [])])
noncomputable def kl_19 : List jA := [((122, 4), [(3, 1, 7)], [], [], [], true, 0)]
noncomputable def ks_19 : List ((Nat × Nat) × Nat) := [((215, 22), 99)]
/-- chooseFrom7 -/
noncomputable def kc_20 : jC := (120, 1, [.inl (.ref 44), .inr (0, 7, 7), .inr (0, (-2147483648), 2147483647)], [], [(44, 6), (48, 9999)], [(none, [])])
noncomputable def kl_20 : List jA := [((120, 33), [(3, 0, 7)], [], [], [], true, 0)]
noncomputable def ks_20 : List ((Nat × Nat) × Nat) := [((215, 22), 99)]
/-- chooseFrom6 -/
noncomputable def kc_21 : jC := (120, 3, [.inl (.ref 44), .inr (0, 6, 6), .inr (0, (-2147483648), 2147483647)], [], [(44, 6), (46, 9999), (47, 9999), (48, 9999)], [(none, [])])
noncomputable def kl_21 : List jA := [((120, 33), [(3, 0, 6)], [], [], [], true, 0), ((120, 65), [(3, 0, 7)], [], [(44, 6)], [], true, 0)]
noncomputable def ks_21 : List ((Nat × Nat) × Nat) := [((215, 22), 99)]
/-- chooseFrom5 -/
noncomputable def kc_22 : jC := (120, 5, [.inl (.ref 44), .inr (0, 5, 5), .inr (0, (-2147483648), 2147483647)], [], [(44, 6), (46, 9999), (47, 9999), (48, 9999)], [(none, [])])
noncomputable def kl_22 : List jA := [((120, 33), [(3, 0, 5)], [], [], [], true, 0), ((120, 65), [(3, 0, 7)], [], [(44, 6)], [], true, 0)]
noncomputable def ks_22 : List ((Nat × Nat) × Nat) := [((215, 22), 99)]
/-- chooseFrom4 -/
noncomputable def kc_23 : jC := (120, 7, [.inl (.ref 44), .inr (0, 4, 4), .inr (0, (-2147483648), 2147483647)], [], [(44, 6), (46, 9999), (47, 9999), (48, 9999)], [(none, [])])
noncomputable def kl_23 : List jA := [((120, 33), [(3, 0, 4)], [], [], [], true, 0), ((120, 65), [(3, 0, 7)], [], [(44, 6)], [], true, 0)]
noncomputable def ks_23 : List ((Nat × Nat) × Nat) := [((215, 22), 99)]
/-- chooseFrom3 -/
noncomputable def kc_24 : jC := (120, 9, [.inl (.ref 44), .inr (0, 3, 3), .inr (0, (-2147483648), 2147483647)], [], [(44, 6), (46, 9999), (47, 9999), (48, 9999)], [(none, [])])
noncomputable def kl_24 : List jA := [((120, 33), [(3, 0, 3)], [], [], [], true, 0), ((120, 65), [(3, 0, 7)], [], [(44, 6)], [], true, 0)]
noncomputable def ks_24 : List ((Nat × Nat) × Nat) := [((215, 22), 99)]
/-- chooseFrom2 -/
noncomputable def kc_25 : jC := (120, 11, [.inl (.ref 44), .inr (0, 2, 2), .inr (0, (-2147483648), 2147483647)], [], [(44, 6), (46, 9999), (47, 9999), (48, 9999)], [(none, [])])
noncomputable def kl_25 : List jA := [((120, 33), [(3, 0, 2)], [], [], [], true, 0), ((120, 65), [(3, 0, 7)], [], [(44, 6)], [], true, 0)]
noncomputable def ks_25 : List ((Nat × Nat) × Nat) := [((215, 22), 99)]
/-- chooseFrom1 -/
noncomputable def kc_26 : jC := (120, 13, [.inl (.ref 44), .inr (0, 1, 1), .inr (0, (-2147483648), 2147483647)], [], [(44, 6), (46, 9999), (47, 9999), (48, 9999)], [(none, [])])
noncomputable def kl_26 : List jA := [((120, 33), [(3, 0, 1)], [], [], [], true, 0), ((120, 65), [(3, 0, 7)], [], [(44, 6)], [], true, 0)]
noncomputable def ks_26 : List ((Nat × Nat) × Nat) := [((215, 22), 99)]
/-- chooseFrom0 -/
noncomputable def kc_27 : jC := (120, 15, [.inl (.ref 44), .inr (0, 0, 0), .inr (0, (-2147483648), 2147483647)], [], [(44, 6), (46, 9999), (47, 9999), (48, 9999)], [(none, [])])
noncomputable def kl_27 : List jA := [((120, 65), [(3, 0, 7)], [], [(44, 6)], [], true, 0)]
noncomputable def ks_27 : List ((Nat × Nat) × Nat) := [((215, 22), 99)]
/-- canLook -/
noncomputable def kc_28 : jC := (88, 2, [.inl (.ref 49), .inr (0, 0, 6), .inr (0, (-2147483648), 2147483647)], [], [], [(some (0, 0, 1), [])])
noncomputable def kl_28 : List jA := [((88, 16), [(3, (-1), 6)], [], [], [], true, 0)]
noncomputable def ks_28 : List ((Nat × Nat) × Nat) := [((215, 22), 99)]
/-- whoCanBe -/
noncomputable def kc_29 : jC := (87, 3, [.inl (.ref 49), .inr (0, 0, 9)], [], [], [(some (0, 0, 127), [])])
noncomputable def kl_29 : List jA := [((87, 4), [(2, 0, 127), (3, 0, 7)], [], [], [], true, 1)]
noncomputable def ks_29 : List ((Nat × Nat) × Nat) := [((215, 22), 99)]
/-- bar -/
noncomputable def kc_30 : jC := (84, 1, [.inl (.ref 49), .inr (0, 0, 9), .inr (0, 0, 9), .inr (0, (-2147483648), 2147483647)], [], [], [(some (0, 0, 1), [])])
noncomputable def kl_30 : List jA := []
noncomputable def ks_30 : List ((Nat × Nat) × Nat) := [((215, 22), 99)]
/-- shareOutFrom10 -/
noncomputable def kc_31 : jC := (85, 0, [.inl (.ref 49), .inr (0, 10, 10), .inr (0, (-2147483648), 2147483647)], [], [(49, 5)], [(none, [])])
noncomputable def kl_31 : List jA := []
noncomputable def ks_31 : List ((Nat × Nat) × Nat) := [((215, 22), 99)]
/-- shareOutFrom9 -/
noncomputable def kc_32 : jC := (85, 2, [.inl (.ref 49), .inr (0, 9, 9), .inr (0, (-2147483648), 2147483647)], [], [(49, 5), (51, 9999)], [(none, [])])
noncomputable def kl_32 : List jA := [((85, 28), [(3, 0, 10)], [], [(49, 5)], [], true, 0)]
noncomputable def ks_32 : List ((Nat × Nat) × Nat) := [((215, 22), 99)]
/-- shareOutFrom8 -/
noncomputable def kc_33 : jC := (85, 4, [.inl (.ref 49), .inr (0, 8, 8), .inr (0, (-2147483648), 2147483647)], [], [(49, 5), (51, 9999)], [(none, [])])
noncomputable def kl_33 : List jA := [((85, 28), [(3, 0, 10)], [], [(49, 5)], [], true, 0)]
noncomputable def ks_33 : List ((Nat × Nat) × Nat) := [((215, 22), 99)]
/-- shareOutFrom7 -/
noncomputable def kc_34 : jC := (85, 6, [.inl (.ref 49), .inr (0, 7, 7), .inr (0, (-2147483648), 2147483647)], [], [(49, 5), (51, 9999)], [(none, [])])
noncomputable def kl_34 : List jA := [((85, 28), [(3, 0, 10)], [], [(49, 5)], [], true, 0)]
noncomputable def ks_34 : List ((Nat × Nat) × Nat) := [((215, 22), 99)]
/-- shareOutFrom6 -/
noncomputable def kc_35 : jC := (85, 8, [.inl (.ref 49), .inr (0, 6, 6), .inr (0, (-2147483648), 2147483647)], [], [(49, 5), (51, 9999)], [(none, [])])
noncomputable def kl_35 : List jA := [((85, 28), [(3, 0, 10)], [], [(49, 5)], [], true, 0)]
noncomputable def ks_35 : List ((Nat × Nat) × Nat) := [((215, 22), 99)]
/-- shareOutFrom5 -/
noncomputable def kc_36 : jC := (85, 10, [.inl (.ref 49), .inr (0, 5, 5), .inr (0, (-2147483648), 2147483647)], [], [(49, 5), (51, 9999)], [(none, [])])
noncomputable def kl_36 : List jA := [((85, 28), [(3, 0, 10)], [], [(49, 5)], [], true, 0)]
noncomputable def ks_36 : List ((Nat × Nat) × Nat) := [((215, 22), 99)]
/-- shareOutFrom4 -/
noncomputable def kc_37 : jC := (85, 12, [.inl (.ref 49), .inr (0, 4, 4), .inr (0, (-2147483648), 2147483647)], [], [(49, 5), (51, 9999)], [(none, [])])
noncomputable def kl_37 : List jA := [((85, 28), [(3, 0, 10)], [], [(49, 5)], [], true, 0)]
noncomputable def ks_37 : List ((Nat × Nat) × Nat) := [((215, 22), 99)]
/-- shareOutFrom3 -/
noncomputable def kc_38 : jC := (85, 14, [.inl (.ref 49), .inr (0, 3, 3), .inr (0, (-2147483648), 2147483647)], [], [(49, 5), (51, 9999)], [(none, [])])
noncomputable def kl_38 : List jA := [((85, 28), [(3, 0, 10)], [], [(49, 5)], [], true, 0)]
noncomputable def ks_38 : List ((Nat × Nat) × Nat) := [((215, 22), 99)]
/-- shareOutFrom2 -/
noncomputable def kc_39 : jC := (85, 16, [.inl (.ref 49), .inr (0, 2, 2), .inr (0, (-2147483648), 2147483647)], [], [(49, 5), (51, 9999)], [(none, [])])
noncomputable def kl_39 : List jA := [((85, 28), [(3, 0, 10)], [], [(49, 5)], [], true, 0)]
noncomputable def ks_39 : List ((Nat × Nat) × Nat) := [((215, 22), 99)]
/-- shareOutFrom1 -/
noncomputable def kc_40 : jC := (85, 18, [.inl (.ref 49), .inr (0, 1, 1), .inr (0, (-2147483648), 2147483647)], [], [(49, 5), (51, 9999)], [(none, [])])
noncomputable def kl_40 : List jA := [((85, 28), [(3, 0, 10)], [], [(49, 5)], [], true, 0)]
noncomputable def ks_40 : List ((Nat × Nat) × Nat) := [((215, 22), 99)]
/-- shareOutFrom0 -/
noncomputable def kc_41 : jC := (85, 20, [.inl (.ref 49), .inr (0, 0, 0), .inr (0, (-2147483648), 2147483647)], [], [(49, 5), (51, 9999)], [(none, [])])
noncomputable def kl_41 : List jA := [((85, 28), [(3, 0, 10)], [], [(49, 5)], [], true, 0)]
noncomputable def ks_41 : List ((Nat × Nat) × Nat) := [((215, 22), 99)]
/-- firstTwoIn -/
noncomputable def kc_42 : jC := (82, 1, [.inl (.ref 49), .inr (0, 0, 29)], [], [], [(some (0, (-2), 66), [])])
noncomputable def kl_42 : List jA := [((82, 2), [(2, 0, 7)], [], [], [], true, 0), ((82, 36), [(4, 1, 7)], [], [], [], true, 0)]
noncomputable def ks_42 : List ((Nat × Nat) × Nat) := [((215, 22), 99)]
/-- readNumber -/
noncomputable def kc_43 : jC := (104, 1, [.inl (.ref 25)], [], [(25, 3), (26, 2), (27, 9999), (28, 9999)], [(some (0, 1, 1), [])])
noncomputable def kl_43 : List jA := []
noncomputable def ks_43 : List ((Nat × Nat) × Nat) := [((215, 22), 99)]
/-- readOperand6 -/
noncomputable def kc_44 : jC := (102, 2, [.inl (.ref 25), .inr (0, 6, 6)], [], [(25, 3), (26, 2), (27, 9999), (28, 9999)], [(some (0, 0, 1), [])])
noncomputable def kl_44 : List jA := []
noncomputable def ks_44 : List ((Nat × Nat) × Nat) := [((215, 22), 99)]
/-- readProduct6 -/
noncomputable def kc_45 : jC := (101, 3, [.inl (.ref 25), .inr (0, 6, 6)], [], [(25, 3), (26, 2), (27, 9999), (28, 9999)], [(some (0, 0, 1), [])])
noncomputable def kl_45 : List jA := [((101, 12), [(2, 0, 120)], [], [], [], true, 0)]
noncomputable def ks_45 : List ((Nat × Nat) × Nat) := [((215, 22), 99)]
/-- readSum6 -/
noncomputable def kc_46 : jC := (100, 4, [.inl (.ref 25), .inr (0, 6, 6)], [], [(25, 3), (26, 2), (27, 9999), (28, 9999)], [(some (0, 0, 1), [])])
noncomputable def kl_46 : List jA := [((100, 12), [(2, 0, 120)], [], [], [], true, 0)]
noncomputable def ks_46 : List ((Nat × Nat) × Nat) := [((215, 22), 99)]
/-- readComparison6 -/
noncomputable def kc_47 : jC := (99, 5, [.inl (.ref 25), .inr (0, 6, 6)], [], [(25, 3), (26, 2), (27, 9999), (28, 9999)], [(some (0, 0, 1), [])])
noncomputable def kl_47 : List jA := []
noncomputable def ks_47 : List ((Nat × Nat) × Nat) := [((215, 22), 99)]
/-- readBoth6 -/
noncomputable def kc_48 : jC := (98, 6, [.inl (.ref 25), .inr (0, 6, 6)], [], [(25, 3), (26, 2), (27, 9999), (28, 9999)], [(some (0, 0, 1), [])])
noncomputable def kl_48 : List jA := [((98, 12), [(2, 0, 120)], [], [], [], true, 0)]
noncomputable def ks_48 : List ((Nat × Nat) × Nat) := [((215, 22), 99)]
/-- readEither6 -/
noncomputable def kc_49 : jC := (97, 7, [.inl (.ref 25), .inr (0, 6, 6)], [], [(25, 3), (26, 2), (27, 9999), (28, 9999)], [(some (0, 0, 1), [])])
noncomputable def kl_49 : List jA := [((97, 12), [(2, 0, 120)], [], [], [], true, 0)]
noncomputable def ks_49 : List ((Nat × Nat) × Nat) := [((215, 22), 99)]
/-- readOperand5 -/
noncomputable def kc_50 : jC := (102, 9, [.inl (.ref 25), .inr (0, 5, 5)], [], [(25, 3), (26, 2), (27, 9999), (28, 9999)], [(some (0, 0, 1), [])])
noncomputable def kl_50 : List jA := []
noncomputable def ks_50 : List ((Nat × Nat) × Nat) := [((215, 22), 99)]
/-- readProduct5 -/
noncomputable def kc_51 : jC := (101, 10, [.inl (.ref 25), .inr (0, 5, 5)], [], [(25, 3), (26, 2), (27, 9999), (28, 9999)], [(some (0, 0, 1), [])])
noncomputable def kl_51 : List jA := [((101, 12), [(2, 0, 120)], [], [], [], true, 0)]
noncomputable def ks_51 : List ((Nat × Nat) × Nat) := [((215, 22), 99)]
/-- readSum5 -/
noncomputable def kc_52 : jC := (100, 11, [.inl (.ref 25), .inr (0, 5, 5)], [], [(25, 3), (26, 2), (27, 9999), (28, 9999)], [(some (0, 0, 1), [])])
noncomputable def kl_52 : List jA := [((100, 12), [(2, 0, 120)], [], [], [], true, 0)]
noncomputable def ks_52 : List ((Nat × Nat) × Nat) := [((215, 22), 99)]
/-- readComparison5 -/
noncomputable def kc_53 : jC := (99, 12, [.inl (.ref 25), .inr (0, 5, 5)], [], [(25, 3), (26, 2), (27, 9999), (28, 9999)], [(some (0, 0, 1), [])])
noncomputable def kl_53 : List jA := []
noncomputable def ks_53 : List ((Nat × Nat) × Nat) := [((215, 22), 99)]
/-- readBoth5 -/
noncomputable def kc_54 : jC := (98, 13, [.inl (.ref 25), .inr (0, 5, 5)], [], [(25, 3), (26, 2), (27, 9999), (28, 9999)], [(some (0, 0, 1), [])])
noncomputable def kl_54 : List jA := [((98, 12), [(2, 0, 120)], [], [], [], true, 0)]
noncomputable def ks_54 : List ((Nat × Nat) × Nat) := [((215, 22), 99)]
/-- readEither5 -/
noncomputable def kc_55 : jC := (97, 14, [.inl (.ref 25), .inr (0, 5, 5)], [], [(25, 3), (26, 2), (27, 9999), (28, 9999)], [(some (0, 0, 1), [])])
noncomputable def kl_55 : List jA := [((97, 12), [(2, 0, 120)], [], [], [], true, 0)]
noncomputable def ks_55 : List ((Nat × Nat) × Nat) := [((215, 22), 99)]
/-- readOperand4 -/
noncomputable def kc_56 : jC := (102, 16, [.inl (.ref 25), .inr (0, 4, 4)], [], [(25, 3), (26, 2), (27, 9999), (28, 9999)], [(some (0, 0, 1), [])])
noncomputable def kl_56 : List jA := []
noncomputable def ks_56 : List ((Nat × Nat) × Nat) := [((215, 22), 99)]
/-- readProduct4 -/
noncomputable def kc_57 : jC := (101, 17, [.inl (.ref 25), .inr (0, 4, 4)], [], [(25, 3), (26, 2), (27, 9999), (28, 9999)], [(some (0, 0, 1), [])])
noncomputable def kl_57 : List jA := [((101, 12), [(2, 0, 120)], [], [], [], true, 0)]
noncomputable def ks_57 : List ((Nat × Nat) × Nat) := [((215, 22), 99)]
/-- readSum4 -/
noncomputable def kc_58 : jC := (100, 18, [.inl (.ref 25), .inr (0, 4, 4)], [], [(25, 3), (26, 2), (27, 9999), (28, 9999)], [(some (0, 0, 1), [])])
noncomputable def kl_58 : List jA := [((100, 12), [(2, 0, 120)], [], [], [], true, 0)]
noncomputable def ks_58 : List ((Nat × Nat) × Nat) := [((215, 22), 99)]
/-- readComparison4 -/
noncomputable def kc_59 : jC := (99, 19, [.inl (.ref 25), .inr (0, 4, 4)], [], [(25, 3), (26, 2), (27, 9999), (28, 9999)], [(some (0, 0, 1), [])])
noncomputable def kl_59 : List jA := []
noncomputable def ks_59 : List ((Nat × Nat) × Nat) := [((215, 22), 99)]
/-- readBoth4 -/
noncomputable def kc_60 : jC := (98, 20, [.inl (.ref 25), .inr (0, 4, 4)], [], [(25, 3), (26, 2), (27, 9999), (28, 9999)], [(some (0, 0, 1), [])])
noncomputable def kl_60 : List jA := [((98, 12), [(2, 0, 120)], [], [], [], true, 0)]
noncomputable def ks_60 : List ((Nat × Nat) × Nat) := [((215, 22), 99)]
/-- readEither4 -/
noncomputable def kc_61 : jC := (97, 21, [.inl (.ref 25), .inr (0, 4, 4)], [], [(25, 3), (26, 2), (27, 9999), (28, 9999)], [(some (0, 0, 1), [])])
noncomputable def kl_61 : List jA := [((97, 12), [(2, 0, 120)], [], [], [], true, 0)]
noncomputable def ks_61 : List ((Nat × Nat) × Nat) := [((215, 22), 99)]
/-- readOperand3 -/
noncomputable def kc_62 : jC := (102, 23, [.inl (.ref 25), .inr (0, 3, 3)], [], [(25, 3), (26, 2), (27, 9999), (28, 9999)], [(some (0, 0, 1), [])])
noncomputable def kl_62 : List jA := []
noncomputable def ks_62 : List ((Nat × Nat) × Nat) := [((215, 22), 99)]
/-- readProduct3 -/
noncomputable def kc_63 : jC := (101, 24, [.inl (.ref 25), .inr (0, 3, 3)], [], [(25, 3), (26, 2), (27, 9999), (28, 9999)], [(some (0, 0, 1), [])])
noncomputable def kl_63 : List jA := [((101, 12), [(2, 0, 120)], [], [], [], true, 0)]
noncomputable def ks_63 : List ((Nat × Nat) × Nat) := [((215, 22), 99)]
/-- readSum3 -/
noncomputable def kc_64 : jC := (100, 25, [.inl (.ref 25), .inr (0, 3, 3)], [], [(25, 3), (26, 2), (27, 9999), (28, 9999)], [(some (0, 0, 1), [])])
noncomputable def kl_64 : List jA := [((100, 12), [(2, 0, 120)], [], [], [], true, 0)]
noncomputable def ks_64 : List ((Nat × Nat) × Nat) := [((215, 22), 99)]
/-- readComparison3 -/
noncomputable def kc_65 : jC := (99, 26, [.inl (.ref 25), .inr (0, 3, 3)], [], [(25, 3), (26, 2), (27, 9999), (28, 9999)], [(some (0, 0, 1), [])])
noncomputable def kl_65 : List jA := []
noncomputable def ks_65 : List ((Nat × Nat) × Nat) := [((215, 22), 99)]
/-- readBoth3 -/
noncomputable def kc_66 : jC := (98, 27, [.inl (.ref 25), .inr (0, 3, 3)], [], [(25, 3), (26, 2), (27, 9999), (28, 9999)], [(some (0, 0, 1), [])])
noncomputable def kl_66 : List jA := [((98, 12), [(2, 0, 120)], [], [], [], true, 0)]
noncomputable def ks_66 : List ((Nat × Nat) × Nat) := [((215, 22), 99)]
/-- readEither3 -/
noncomputable def kc_67 : jC := (97, 28, [.inl (.ref 25), .inr (0, 3, 3)], [], [(25, 3), (26, 2), (27, 9999), (28, 9999)], [(some (0, 0, 1), [])])
noncomputable def kl_67 : List jA := [((97, 12), [(2, 0, 120)], [], [], [], true, 0)]
noncomputable def ks_67 : List ((Nat × Nat) × Nat) := [((215, 22), 99)]
/-- readOperand2 -/
noncomputable def kc_68 : jC := (102, 30, [.inl (.ref 25), .inr (0, 2, 2)], [], [(25, 3), (26, 2), (27, 9999), (28, 9999)], [(some (0, 0, 1), [])])
noncomputable def kl_68 : List jA := []
noncomputable def ks_68 : List ((Nat × Nat) × Nat) := [((215, 22), 99)]
/-- readProduct2 -/
noncomputable def kc_69 : jC := (101, 31, [.inl (.ref 25), .inr (0, 2, 2)], [], [(25, 3), (26, 2), (27, 9999), (28, 9999)], [(some (0, 0, 1), [])])
noncomputable def kl_69 : List jA := [((101, 12), [(2, 0, 120)], [], [], [], true, 0)]
noncomputable def ks_69 : List ((Nat × Nat) × Nat) := [((215, 22), 99)]
/-- readSum2 -/
noncomputable def kc_70 : jC := (100, 32, [.inl (.ref 25), .inr (0, 2, 2)], [], [(25, 3), (26, 2), (27, 9999), (28, 9999)], [(some (0, 0, 1), [])])
noncomputable def kl_70 : List jA := [((100, 12), [(2, 0, 120)], [], [], [], true, 0)]
noncomputable def ks_70 : List ((Nat × Nat) × Nat) := [((215, 22), 99)]
/-- readComparison2 -/
noncomputable def kc_71 : jC := (99, 33, [.inl (.ref 25), .inr (0, 2, 2)], [], [(25, 3), (26, 2), (27, 9999), (28, 9999)], [(some (0, 0, 1), [])])
noncomputable def kl_71 : List jA := []
noncomputable def ks_71 : List ((Nat × Nat) × Nat) := [((215, 22), 99)]
/-- readBoth2 -/
noncomputable def kc_72 : jC := (98, 34, [.inl (.ref 25), .inr (0, 2, 2)], [], [(25, 3), (26, 2), (27, 9999), (28, 9999)], [(some (0, 0, 1), [])])
noncomputable def kl_72 : List jA := [((98, 12), [(2, 0, 120)], [], [], [], true, 0)]
noncomputable def ks_72 : List ((Nat × Nat) × Nat) := [((215, 22), 99)]
/-- readEither2 -/
noncomputable def kc_73 : jC := (97, 35, [.inl (.ref 25), .inr (0, 2, 2)], [], [(25, 3), (26, 2), (27, 9999), (28, 9999)], [(some (0, 0, 1), [])])
noncomputable def kl_73 : List jA := [((97, 12), [(2, 0, 120)], [], [], [], true, 0)]
noncomputable def ks_73 : List ((Nat × Nat) × Nat) := [((215, 22), 99)]
/-- readOperand1 -/
noncomputable def kc_74 : jC := (102, 37, [.inl (.ref 25), .inr (0, 1, 1)], [], [(25, 3), (26, 2), (27, 9999), (28, 9999)], [(some (0, 0, 1), [])])
noncomputable def kl_74 : List jA := []
noncomputable def ks_74 : List ((Nat × Nat) × Nat) := [((215, 22), 99)]
/-- readProduct1 -/
noncomputable def kc_75 : jC := (101, 38, [.inl (.ref 25), .inr (0, 1, 1)], [], [(25, 3), (26, 2), (27, 9999), (28, 9999)], [(some (0, 0, 1), [])])
noncomputable def kl_75 : List jA := [((101, 12), [(2, 0, 120)], [], [], [], true, 0)]
noncomputable def ks_75 : List ((Nat × Nat) × Nat) := [((215, 22), 99)]
/-- readSum1 -/
noncomputable def kc_76 : jC := (100, 39, [.inl (.ref 25), .inr (0, 1, 1)], [], [(25, 3), (26, 2), (27, 9999), (28, 9999)], [(some (0, 0, 1), [])])
noncomputable def kl_76 : List jA := [((100, 12), [(2, 0, 120)], [], [], [], true, 0)]
noncomputable def ks_76 : List ((Nat × Nat) × Nat) := [((215, 22), 99)]
/-- readComparison1 -/
noncomputable def kc_77 : jC := (99, 40, [.inl (.ref 25), .inr (0, 1, 1)], [], [(25, 3), (26, 2), (27, 9999), (28, 9999)], [(some (0, 0, 1), [])])
noncomputable def kl_77 : List jA := []
noncomputable def ks_77 : List ((Nat × Nat) × Nat) := [((215, 22), 99)]
/-- readBoth1 -/
noncomputable def kc_78 : jC := (98, 41, [.inl (.ref 25), .inr (0, 1, 1)], [], [(25, 3), (26, 2), (27, 9999), (28, 9999)], [(some (0, 0, 1), [])])
noncomputable def kl_78 : List jA := [((98, 12), [(2, 0, 120)], [], [], [], true, 0)]
noncomputable def ks_78 : List ((Nat × Nat) × Nat) := [((215, 22), 99)]
/-- readEither1 -/
noncomputable def kc_79 : jC := (97, 42, [.inl (.ref 25), .inr (0, 1, 1)], [], [(25, 3), (26, 2), (27, 9999), (28, 9999)], [(some (0, 0, 1), [])])
noncomputable def kl_79 : List jA := [((97, 12), [(2, 0, 120)], [], [], [], true, 0)]
noncomputable def ks_79 : List ((Nat × Nat) × Nat) := [((215, 22), 99)]
/-- readOperand0 -/
noncomputable def kc_80 : jC := (102, 44, [.inl (.ref 25), .inr (0, 0, 0)], [], [(25, 3), (26, 2), (27, 9999), (28, 9999)], [(some (0, 0, 1), [])])
noncomputable def kl_80 : List jA := []
noncomputable def ks_80 : List ((Nat × Nat) × Nat) := [((215, 22), 99)]
/-- readProduct0 -/
noncomputable def kc_81 : jC := (101, 45, [.inl (.ref 25), .inr (0, 0, 0)], [], [(25, 3), (26, 2), (27, 9999), (28, 9999)], [(some (0, 0, 1), [])])
noncomputable def kl_81 : List jA := [((101, 12), [(2, 0, 120)], [], [], [], true, 0)]
noncomputable def ks_81 : List ((Nat × Nat) × Nat) := [((215, 22), 99)]
/-- readSum0 -/
noncomputable def kc_82 : jC := (100, 46, [.inl (.ref 25), .inr (0, 0, 0)], [], [(25, 3), (26, 2), (27, 9999), (28, 9999)], [(some (0, 0, 1), [])])
noncomputable def kl_82 : List jA := [((100, 12), [(2, 0, 120)], [], [], [], true, 0)]
noncomputable def ks_82 : List ((Nat × Nat) × Nat) := [((215, 22), 99)]
/-- readComparison0 -/
noncomputable def kc_83 : jC := (99, 47, [.inl (.ref 25), .inr (0, 0, 0)], [], [(25, 3), (26, 2), (27, 9999), (28, 9999)], [(some (0, 0, 1), [])])
noncomputable def kl_83 : List jA := []
noncomputable def ks_83 : List ((Nat × Nat) × Nat) := [((215, 22), 99)]
/-- readBoth0 -/
noncomputable def kc_84 : jC := (98, 48, [.inl (.ref 25), .inr (0, 0, 0)], [], [(25, 3), (26, 2), (27, 9999), (28, 9999)], [(some (0, 0, 1), [])])
noncomputable def kl_84 : List jA := [((98, 12), [(2, 0, 120)], [], [], [], true, 0)]
noncomputable def ks_84 : List ((Nat × Nat) × Nat) := [((215, 22), 99)]
/-- readEither0 -/
noncomputable def kc_85 : jC := (97, 49, [.inl (.ref 25), .inr (0, 0, 0)], [], [(25, 3), (26, 2), (27, 9999), (28, 9999)], [(some (0, 0, 1), [])])
noncomputable def kl_85 : List jA := [((97, 12), [(2, 0, 120)], [], [], [], true, 0)]
noncomputable def ks_85 : List ((Nat × Nat) × Nat) := [((215, 22), 99)]
/-- readLine -/
noncomputable def kc_86 : jC := (96, 50, [.inl (.ref 25)], [], [(25, 3), (26, 2), (27, 9999), (28, 9999)], [(some (0, 0, 1), [])])
noncomputable def kl_86 : List jA := []
noncomputable def ks_86 : List ((Nat × Nat) × Nat) := [((215, 22), 99)]
/-- lawcopy -/
noncomputable def kc_87 : jC := (40, 0, [.inl (.ref 20), .inl (.ref 26)], [], [(20, 2), (21, 9999), (22, 9999)], [(none, [])])
noncomputable def kl_87 : List jA := [((40, 10), [(2, 0, 128)], [], [], [], true, 0)]
noncomputable def ks_87 : List ((Nat × Nat) × Nat) := [((215, 22), 99)]
/-- scenecopy -/
noncomputable def kc_88 : jC := (58, 0, [.inl (.ref 7), .inl (.ref 1)], [], [(7, 5), (8, 9999), (9, 9999), (10, 9999), (11, 9999), (12, 9999)], [(none, [])])
noncomputable def kl_88 : List jA := [((58, 2), [(2, 0, 7)], [], [], [], true, 0), ((58, 28), [(2, 0, 210)], [], [], [], true, 0), ((58, 55), [(2, 0, 10)], [], [], [], true, 0)]
noncomputable def ks_88 : List ((Nat × Nat) × Nat) := [((215, 22), 99)]
/-- scenecopy2 -/
noncomputable def kc_89 : jC := (58, 0, [.inl (.ref 1), .inl (.ref 7)], [], [(1, 5), (2, 9999), (3, 9999), (4, 9999), (5, 9999), (6, 9999)], [(none, [])])
noncomputable def kl_89 : List jA := [((58, 2), [(2, 0, 7)], [], [], [], true, 0), ((58, 28), [(2, 0, 210)], [], [], [], true, 0), ((58, 55), [(2, 0, 10)], [], [], [], true, 0)]
noncomputable def ks_89 : List ((Nat × Nat) × Nat) := [((215, 22), 99)]
/-- bitsOf -/
noncomputable def kc_90 : jC := (175, 0, [.inr (0, 0, 1023)], [], [], [(some (0, (-2147483648), 2147483647), [])])
noncomputable def kl_90 : List jA := [((175, 4), [(1, (-2147483648), 2147483647), (2, 0, 1023)], [], [], [], false, 1)]
noncomputable def ks_90 : List ((Nat × Nat) × Nat) := [((215, 22), 99)]
/-- byteAt -/
noncomputable def kc_91 : jC := (197, 0, [.inl (.ref 66)], [], [], [(some (0, 0, 255), [((66, 16), 0, 119, true)]), (some (0, 0, 0), [])])
noncomputable def kl_91 : List jA := []
noncomputable def ks_91 : List ((Nat × Nat) × Nat) := [((215, 22), 99)]
/-- one6 -/
noncomputable def kc_92 : jC := (206, 1, [.inl (.ref 66)], [((66, 19), 6, 6, false)], [(66, 16), (66, 18)], [(some (0, 0, 0), [((66, 18), 0, 120, false), ((66, 19), 6, 6, false), ((66, 16), 0, 120, true)]), (some (0, (-2147483648), 2147483647), [((66, 18), (-1), (-1), false), ((66, 19), 6, 6, false), ((66, 16), 0, 120, true)])])
noncomputable def kl_92 : List jA := [((206, 176), [(3, (-2147483648), 2147483647), (4, 0, 4)], [((66, 16), 0, 120, true)], [], [], true, 1)]
noncomputable def ks_92 : List ((Nat × Nat) × Nat) := [((215, 22), 99)]
/-- product6 -/
noncomputable def kc_93 : jC := (204, 2, [.inl (.ref 66)], [((66, 19), 6, 6, false)], [(66, 16), (66, 18)], [(some (0, (-2147483648), 2147483647), [((66, 18), 0, 120, false), ((66, 19), 6, 6, false), ((66, 16), 0, 120, true)]), (some (0, (-2147483648), 2147483647), [((66, 18), (-1), (-1), false), ((66, 19), 6, 6, false), ((66, 16), 0, 120, true)])])
noncomputable def kl_93 : List jA := [((204, 35), [(1, (-2147483648), 2147483647), (2, 37, 48)], [((66, 16), 0, 119, true)], [], [], true, 2)]
noncomputable def ks_93 : List ((Nat × Nat) × Nat) := [((215, 22), 99)]
/-- sums6 -/
noncomputable def kc_94 : jC := (203, 3, [.inl (.ref 66)], [((66, 19), 6, 6, false)], [(66, 16), (66, 18)], [(some (0, (-2147483648), 2147483647), [((66, 18), 0, 120, false), ((66, 19), 6, 6, false), ((66, 16), 0, 120, true)]), (some (0, (-2147483648), 2147483647), [((66, 18), (-1), (-1), false), ((66, 19), 6, 6, false), ((66, 16), 0, 120, true)])])
noncomputable def kl_94 : List jA := [((203, 45), [(1, (-2147483648), 2147483647), (2, 0, 1)], [((66, 16), 0, 119, true)], [], [], true, 2)]
noncomputable def ks_94 : List ((Nat × Nat) × Nat) := [((215, 22), 99)]
/-- compared6 -/
noncomputable def kc_95 : jC := (202, 4, [.inl (.ref 66)], [((66, 19), 6, 6, false)], [(66, 16), (66, 18)], [(some (0, (-2147483648), 2147483647), [((66, 18), 0, 120, false), ((66, 19), 6, 6, false), ((66, 16), 0, 120, true)]), (some (0, (-2147483648), 2147483647), [((66, 18), (-1), (-1), false), ((66, 19), 6, 6, false), ((66, 16), 0, 120, true)])])
noncomputable def kl_95 : List jA := []
noncomputable def ks_95 : List ((Nat × Nat) × Nat) := [((215, 22), 99)]
/-- both6 -/
noncomputable def kc_96 : jC := (201, 5, [.inl (.ref 66)], [((66, 19), 6, 6, false)], [(66, 16), (66, 18)], [(some (0, (-2147483648), 2147483647), [((66, 18), 0, 120, false), ((66, 19), 6, 6, false), ((66, 16), 0, 120, true)]), (some (0, (-2147483648), 2147483647), [((66, 18), (-1), (-1), false), ((66, 19), 6, 6, false), ((66, 16), 0, 120, true)])])
noncomputable def kl_96 : List jA := [((201, 14), [(1, (-2147483648), 2147483647)], [((66, 16), 0, 120, true)], [], [], true, 1)]
noncomputable def ks_96 : List ((Nat × Nat) × Nat) := [((215, 22), 99)]
/-- either6 -/
noncomputable def kc_97 : jC := (200, 6, [.inl (.ref 66)], [((66, 19), 6, 6, false)], [(66, 16), (66, 18)], [(some (0, (-2147483648), 2147483647), [((66, 18), 0, 120, false), ((66, 19), 6, 6, false), ((66, 16), 0, 120, true)]), (some (0, (-2147483648), 2147483647), [((66, 18), (-1), (-1), false), ((66, 19), 6, 6, false), ((66, 16), 0, 120, true)])])
noncomputable def kl_97 : List jA := [((200, 14), [(1, (-2147483648), 2147483647)], [((66, 16), 0, 120, true)], [], [], true, 1)]
noncomputable def ks_97 : List ((Nat × Nat) × Nat) := [((215, 22), 99)]
/-- one5 -/
noncomputable def kc_98 : jC := (206, 7, [.inl (.ref 66)], [((66, 19), 5, 5, false)], [(66, 16), (66, 18), (66, 19)], [(some (0, 0, 1), [((66, 18), 0, 120, false), ((66, 19), 5, 6, false), ((66, 16), 0, 120, true)]), (some (0, (-2147483648), 2147483647), [((66, 18), (-1), (-1), false), ((66, 19), 5, 5, false), ((66, 16), 0, 120, true)])])
noncomputable def kl_98 : List jA := [((206, 176), [(3, (-2147483648), 2147483647), (4, 0, 4)], [((66, 16), 0, 120, true)], [], [], true, 1)]
noncomputable def ks_98 : List ((Nat × Nat) × Nat) := [((215, 22), 99)]
/-- product5 -/
noncomputable def kc_99 : jC := (204, 8, [.inl (.ref 66)], [((66, 19), 5, 5, false)], [(66, 16), (66, 18), (66, 19)], [(some (0, (-2147483648), 2147483647), [((66, 18), 0, 120, false), ((66, 19), 5, 6, false), ((66, 16), 0, 120, true)]), (some (0, (-2147483648), 2147483647), [((66, 18), (-1), (-1), false), ((66, 19), 5, 5, false), ((66, 16), 0, 120, true)])])
noncomputable def kl_99 : List jA := [((204, 35), [(1, (-2147483648), 2147483647), (2, 37, 48)], [((66, 16), 0, 119, true)], [], [], true, 2)]
noncomputable def ks_99 : List ((Nat × Nat) × Nat) := [((215, 22), 99)]
/-- sums5 -/
noncomputable def kc_100 : jC := (203, 9, [.inl (.ref 66)], [((66, 19), 5, 5, false)], [(66, 16), (66, 18), (66, 19)], [(some (0, (-2147483648), 2147483647), [((66, 18), 0, 120, false), ((66, 19), 5, 6, false), ((66, 16), 0, 120, true)]), (some (0, (-2147483648), 2147483647), [((66, 18), (-1), (-1), false), ((66, 19), 5, 5, false), ((66, 16), 0, 120, true)])])
noncomputable def kl_100 : List jA := [((203, 45), [(1, (-2147483648), 2147483647), (2, 0, 1)], [((66, 16), 0, 119, true)], [], [], true, 2)]
noncomputable def ks_100 : List ((Nat × Nat) × Nat) := [((215, 22), 99)]
/-- compared5 -/
noncomputable def kc_101 : jC := (202, 10, [.inl (.ref 66)], [((66, 19), 5, 5, false)], [(66, 16), (66, 18), (66, 19)], [(some (0, (-2147483648), 2147483647), [((66, 18), 0, 120, false), ((66, 19), 5, 6, false), ((66, 16), 0, 120, true)]), (some (0, (-2147483648), 2147483647), [((66, 18), (-1), (-1), false), ((66, 19), 5, 5, false), ((66, 16), 0, 120, true)])])
noncomputable def kl_101 : List jA := []
noncomputable def ks_101 : List ((Nat × Nat) × Nat) := [((215, 22), 99)]
/-- both5 -/
noncomputable def kc_102 : jC := (201, 11, [.inl (.ref 66)], [((66, 19), 5, 5, false)], [(66, 16), (66, 18), (66, 19)], [(some (0, (-2147483648), 2147483647), [((66, 18), 0, 120, false), ((66, 19), 5, 6, false), ((66, 16), 0, 120, true)]), (some (0, (-2147483648), 2147483647), [((66, 18), (-1), (-1), false), ((66, 19), 5, 5, false), ((66, 16), 0, 120, true)])])
noncomputable def kl_102 : List jA := [((201, 14), [(1, (-2147483648), 2147483647)], [((66, 16), 0, 120, true)], [], [], true, 1)]
noncomputable def ks_102 : List ((Nat × Nat) × Nat) := [((215, 22), 99)]
/-- either5 -/
noncomputable def kc_103 : jC := (200, 12, [.inl (.ref 66)], [((66, 19), 5, 5, false)], [(66, 16), (66, 18), (66, 19)], [(some (0, (-2147483648), 2147483647), [((66, 18), 0, 120, false), ((66, 19), 5, 6, false), ((66, 16), 0, 120, true)]), (some (0, (-2147483648), 2147483647), [((66, 18), (-1), (-1), false), ((66, 19), 5, 5, false), ((66, 16), 0, 120, true)])])
noncomputable def kl_103 : List jA := [((200, 14), [(1, (-2147483648), 2147483647)], [((66, 16), 0, 120, true)], [], [], true, 1)]
noncomputable def ks_103 : List ((Nat × Nat) × Nat) := [((215, 22), 99)]
/-- one4 -/
noncomputable def kc_104 : jC := (206, 13, [.inl (.ref 66)], [((66, 19), 4, 4, false)], [(66, 16), (66, 18), (66, 19)], [(some (0, (-2147483648), 2147483647), [((66, 18), 0, 120, false), ((66, 19), 4, 6, false), ((66, 16), 0, 120, true)]), (some (0, (-2147483648), 2147483647), [((66, 18), (-1), (-1), false), ((66, 19), 4, 4, false), ((66, 16), 0, 120, true)])])
noncomputable def kl_104 : List jA := [((206, 176), [(3, (-2147483648), 2147483647), (4, 0, 4)], [((66, 16), 0, 120, true)], [], [], true, 1)]
noncomputable def ks_104 : List ((Nat × Nat) × Nat) := [((215, 22), 99)]
/-- product4 -/
noncomputable def kc_105 : jC := (204, 14, [.inl (.ref 66)], [((66, 19), 4, 4, false)], [(66, 16), (66, 18), (66, 19)], [(some (0, (-2147483648), 2147483647), [((66, 18), 0, 120, false), ((66, 19), 4, 6, false), ((66, 16), 0, 120, true)]), (some (0, (-2147483648), 2147483647), [((66, 18), (-1), (-1), false), ((66, 19), 4, 4, false), ((66, 16), 0, 120, true)])])
noncomputable def kl_105 : List jA := [((204, 35), [(1, (-2147483648), 2147483647), (2, 37, 48)], [((66, 16), 0, 119, true)], [], [], true, 2)]
noncomputable def ks_105 : List ((Nat × Nat) × Nat) := [((215, 22), 99)]
/-- sums4 -/
noncomputable def kc_106 : jC := (203, 15, [.inl (.ref 66)], [((66, 19), 4, 4, false)], [(66, 16), (66, 18), (66, 19)], [(some (0, (-2147483648), 2147483647), [((66, 18), 0, 120, false), ((66, 19), 4, 6, false), ((66, 16), 0, 120, true)]), (some (0, (-2147483648), 2147483647), [((66, 18), (-1), (-1), false), ((66, 19), 4, 4, false), ((66, 16), 0, 120, true)])])
noncomputable def kl_106 : List jA := [((203, 45), [(1, (-2147483648), 2147483647), (2, 0, 1)], [((66, 16), 0, 119, true)], [], [], true, 2)]
noncomputable def ks_106 : List ((Nat × Nat) × Nat) := [((215, 22), 99)]
/-- compared4 -/
noncomputable def kc_107 : jC := (202, 16, [.inl (.ref 66)], [((66, 19), 4, 4, false)], [(66, 16), (66, 18), (66, 19)], [(some (0, (-2147483648), 2147483647), [((66, 18), 0, 120, false), ((66, 19), 4, 6, false), ((66, 16), 0, 120, true)]), (some (0, (-2147483648), 2147483647), [((66, 18), (-1), (-1), false), ((66, 19), 4, 4, false), ((66, 16), 0, 120, true)])])
noncomputable def kl_107 : List jA := []
noncomputable def ks_107 : List ((Nat × Nat) × Nat) := [((215, 22), 99)]
/-- both4 -/
noncomputable def kc_108 : jC := (201, 17, [.inl (.ref 66)], [((66, 19), 4, 4, false)], [(66, 16), (66, 18), (66, 19)], [(some (0, (-2147483648), 2147483647), [((66, 18), 0, 120, false), ((66, 19), 4, 6, false), ((66, 16), 0, 120, true)]), (some (0, (-2147483648), 2147483647), [((66, 18), (-1), (-1), false), ((66, 19), 4, 4, false), ((66, 16), 0, 120, true)])])
noncomputable def kl_108 : List jA := [((201, 14), [(1, (-2147483648), 2147483647)], [((66, 16), 0, 120, true)], [], [], true, 1)]
noncomputable def ks_108 : List ((Nat × Nat) × Nat) := [((215, 22), 99)]
/-- either4 -/
noncomputable def kc_109 : jC := (200, 18, [.inl (.ref 66)], [((66, 19), 4, 4, false)], [(66, 16), (66, 18), (66, 19)], [(some (0, (-2147483648), 2147483647), [((66, 18), 0, 120, false), ((66, 19), 4, 6, false), ((66, 16), 0, 120, true)]), (some (0, (-2147483648), 2147483647), [((66, 18), (-1), (-1), false), ((66, 19), 4, 4, false), ((66, 16), 0, 120, true)])])
noncomputable def kl_109 : List jA := [((200, 14), [(1, (-2147483648), 2147483647)], [((66, 16), 0, 120, true)], [], [], true, 1)]
noncomputable def ks_109 : List ((Nat × Nat) × Nat) := [((215, 22), 99)]
/-- one3 -/
noncomputable def kc_110 : jC := (206, 19, [.inl (.ref 66)], [((66, 19), 3, 3, false)], [(66, 16), (66, 18), (66, 19)], [(some (0, (-2147483648), 2147483647), [((66, 18), 0, 120, false), ((66, 19), 3, 6, false), ((66, 16), 0, 120, true)]), (some (0, (-2147483648), 2147483647), [((66, 18), (-1), (-1), false), ((66, 19), 3, 3, false), ((66, 16), 0, 120, true)])])
noncomputable def kl_110 : List jA := [((206, 176), [(3, (-2147483648), 2147483647), (4, 0, 4)], [((66, 16), 0, 120, true)], [], [], true, 1)]
noncomputable def ks_110 : List ((Nat × Nat) × Nat) := [((215, 22), 99)]
/-- product3 -/
noncomputable def kc_111 : jC := (204, 20, [.inl (.ref 66)], [((66, 19), 3, 3, false)], [(66, 16), (66, 18), (66, 19)], [(some (0, (-2147483648), 2147483647), [((66, 18), 0, 120, false), ((66, 19), 3, 6, false), ((66, 16), 0, 120, true)]), (some (0, (-2147483648), 2147483647), [((66, 18), (-1), (-1), false), ((66, 19), 3, 3, false), ((66, 16), 0, 120, true)])])
noncomputable def kl_111 : List jA := [((204, 35), [(1, (-2147483648), 2147483647), (2, 37, 48)], [((66, 16), 0, 119, true)], [], [], true, 2)]
noncomputable def ks_111 : List ((Nat × Nat) × Nat) := [((215, 22), 99)]
/-- sums3 -/
noncomputable def kc_112 : jC := (203, 21, [.inl (.ref 66)], [((66, 19), 3, 3, false)], [(66, 16), (66, 18), (66, 19)], [(some (0, (-2147483648), 2147483647), [((66, 18), 0, 120, false), ((66, 19), 3, 6, false), ((66, 16), 0, 120, true)]), (some (0, (-2147483648), 2147483647), [((66, 18), (-1), (-1), false), ((66, 19), 3, 3, false), ((66, 16), 0, 120, true)])])
noncomputable def kl_112 : List jA := [((203, 45), [(1, (-2147483648), 2147483647), (2, 0, 1)], [((66, 16), 0, 119, true)], [], [], true, 2)]
noncomputable def ks_112 : List ((Nat × Nat) × Nat) := [((215, 22), 99)]
/-- compared3 -/
noncomputable def kc_113 : jC := (202, 22, [.inl (.ref 66)], [((66, 19), 3, 3, false)], [(66, 16), (66, 18), (66, 19)], [(some (0, (-2147483648), 2147483647), [((66, 18), 0, 120, false), ((66, 19), 3, 6, false), ((66, 16), 0, 120, true)]), (some (0, (-2147483648), 2147483647), [((66, 18), (-1), (-1), false), ((66, 19), 3, 3, false), ((66, 16), 0, 120, true)])])
noncomputable def kl_113 : List jA := []
noncomputable def ks_113 : List ((Nat × Nat) × Nat) := [((215, 22), 99)]
/-- both3 -/
noncomputable def kc_114 : jC := (201, 23, [.inl (.ref 66)], [((66, 19), 3, 3, false)], [(66, 16), (66, 18), (66, 19)], [(some (0, (-2147483648), 2147483647), [((66, 18), 0, 120, false), ((66, 19), 3, 6, false), ((66, 16), 0, 120, true)]), (some (0, (-2147483648), 2147483647), [((66, 18), (-1), (-1), false), ((66, 19), 3, 3, false), ((66, 16), 0, 120, true)])])
noncomputable def kl_114 : List jA := [((201, 14), [(1, (-2147483648), 2147483647)], [((66, 16), 0, 120, true)], [], [], true, 1)]
noncomputable def ks_114 : List ((Nat × Nat) × Nat) := [((215, 22), 99)]
/-- either3 -/
noncomputable def kc_115 : jC := (200, 24, [.inl (.ref 66)], [((66, 19), 3, 3, false)], [(66, 16), (66, 18), (66, 19)], [(some (0, (-2147483648), 2147483647), [((66, 18), 0, 120, false), ((66, 19), 3, 6, false), ((66, 16), 0, 120, true)]), (some (0, (-2147483648), 2147483647), [((66, 18), (-1), (-1), false), ((66, 19), 3, 3, false), ((66, 16), 0, 120, true)])])
noncomputable def kl_115 : List jA := [((200, 14), [(1, (-2147483648), 2147483647)], [((66, 16), 0, 120, true)], [], [], true, 1)]
noncomputable def ks_115 : List ((Nat × Nat) × Nat) := [((215, 22), 99)]
/-- one2 -/
noncomputable def kc_116 : jC := (206, 25, [.inl (.ref 66)], [((66, 19), 2, 2, false)], [(66, 16), (66, 18), (66, 19)], [(some (0, (-2147483648), 2147483647), [((66, 18), 0, 120, false), ((66, 19), 2, 6, false), ((66, 16), 0, 120, true)]), (some (0, (-2147483648), 2147483647), [((66, 18), (-1), (-1), false), ((66, 19), 2, 2, false), ((66, 16), 0, 120, true)])])
noncomputable def kl_116 : List jA := [((206, 176), [(3, (-2147483648), 2147483647), (4, 0, 4)], [((66, 16), 0, 120, true)], [], [], true, 1)]
noncomputable def ks_116 : List ((Nat × Nat) × Nat) := [((215, 22), 99)]
/-- product2 -/
noncomputable def kc_117 : jC := (204, 26, [.inl (.ref 66)], [((66, 19), 2, 2, false)], [(66, 16), (66, 18), (66, 19)], [(some (0, (-2147483648), 2147483647), [((66, 18), 0, 120, false), ((66, 19), 2, 6, false), ((66, 16), 0, 120, true)]), (some (0, (-2147483648), 2147483647), [((66, 18), (-1), (-1), false), ((66, 19), 2, 2, false), ((66, 16), 0, 120, true)])])
noncomputable def kl_117 : List jA := [((204, 35), [(1, (-2147483648), 2147483647), (2, 37, 48)], [((66, 16), 0, 119, true)], [], [], true, 2)]
noncomputable def ks_117 : List ((Nat × Nat) × Nat) := [((215, 22), 99)]
/-- sums2 -/
noncomputable def kc_118 : jC := (203, 27, [.inl (.ref 66)], [((66, 19), 2, 2, false)], [(66, 16), (66, 18), (66, 19)], [(some (0, (-2147483648), 2147483647), [((66, 18), 0, 120, false), ((66, 19), 2, 6, false), ((66, 16), 0, 120, true)]), (some (0, (-2147483648), 2147483647), [((66, 18), (-1), (-1), false), ((66, 19), 2, 2, false), ((66, 16), 0, 120, true)])])
noncomputable def kl_118 : List jA := [((203, 45), [(1, (-2147483648), 2147483647), (2, 0, 1)], [((66, 16), 0, 119, true)], [], [], true, 2)]
noncomputable def ks_118 : List ((Nat × Nat) × Nat) := [((215, 22), 99)]
/-- compared2 -/
noncomputable def kc_119 : jC := (202, 28, [.inl (.ref 66)], [((66, 19), 2, 2, false)], [(66, 16), (66, 18), (66, 19)], [(some (0, (-2147483648), 2147483647), [((66, 18), 0, 120, false), ((66, 19), 2, 6, false), ((66, 16), 0, 120, true)]), (some (0, (-2147483648), 2147483647), [((66, 18), (-1), (-1), false), ((66, 19), 2, 2, false), ((66, 16), 0, 120, true)])])
noncomputable def kl_119 : List jA := []
noncomputable def ks_119 : List ((Nat × Nat) × Nat) := [((215, 22), 99)]
/-- both2 -/
noncomputable def kc_120 : jC := (201, 29, [.inl (.ref 66)], [((66, 19), 2, 2, false)], [(66, 16), (66, 18), (66, 19)], [(some (0, (-2147483648), 2147483647), [((66, 18), 0, 120, false), ((66, 19), 2, 6, false), ((66, 16), 0, 120, true)]), (some (0, (-2147483648), 2147483647), [((66, 18), (-1), (-1), false), ((66, 19), 2, 2, false), ((66, 16), 0, 120, true)])])
noncomputable def kl_120 : List jA := [((201, 14), [(1, (-2147483648), 2147483647)], [((66, 16), 0, 120, true)], [], [], true, 1)]
noncomputable def ks_120 : List ((Nat × Nat) × Nat) := [((215, 22), 99)]
/-- either2 -/
noncomputable def kc_121 : jC := (200, 30, [.inl (.ref 66)], [((66, 19), 2, 2, false)], [(66, 16), (66, 18), (66, 19)], [(some (0, (-2147483648), 2147483647), [((66, 18), 0, 120, false), ((66, 19), 2, 6, false), ((66, 16), 0, 120, true)]), (some (0, (-2147483648), 2147483647), [((66, 18), (-1), (-1), false), ((66, 19), 2, 2, false), ((66, 16), 0, 120, true)])])
noncomputable def kl_121 : List jA := [((200, 14), [(1, (-2147483648), 2147483647)], [((66, 16), 0, 120, true)], [], [], true, 1)]
noncomputable def ks_121 : List ((Nat × Nat) × Nat) := [((215, 22), 99)]
/-- one1 -/
noncomputable def kc_122 : jC := (206, 31, [.inl (.ref 66)], [((66, 19), 1, 1, false)], [(66, 16), (66, 18), (66, 19)], [(some (0, (-2147483648), 2147483647), [((66, 18), 0, 120, false), ((66, 19), 1, 6, false), ((66, 16), 0, 120, true)]), (some (0, (-2147483648), 2147483647), [((66, 18), (-1), (-1), false), ((66, 19), 1, 1, false), ((66, 16), 0, 120, true)])])
noncomputable def kl_122 : List jA := [((206, 176), [(3, (-2147483648), 2147483647), (4, 0, 4)], [((66, 16), 0, 120, true)], [], [], true, 1)]
noncomputable def ks_122 : List ((Nat × Nat) × Nat) := [((215, 22), 99)]
/-- product1 -/
noncomputable def kc_123 : jC := (204, 32, [.inl (.ref 66)], [((66, 19), 1, 1, false)], [(66, 16), (66, 18), (66, 19)], [(some (0, (-2147483648), 2147483647), [((66, 18), 0, 120, false), ((66, 19), 1, 6, false), ((66, 16), 0, 120, true)]), (some (0, (-2147483648), 2147483647), [((66, 18), (-1), (-1), false), ((66, 19), 1, 1, false), ((66, 16), 0, 120, true)])])
noncomputable def kl_123 : List jA := [((204, 35), [(1, (-2147483648), 2147483647), (2, 37, 48)], [((66, 16), 0, 119, true)], [], [], true, 2)]
noncomputable def ks_123 : List ((Nat × Nat) × Nat) := [((215, 22), 99)]
/-- sums1 -/
noncomputable def kc_124 : jC := (203, 33, [.inl (.ref 66)], [((66, 19), 1, 1, false)], [(66, 16), (66, 18), (66, 19)], [(some (0, (-2147483648), 2147483647), [((66, 18), 0, 120, false), ((66, 19), 1, 6, false), ((66, 16), 0, 120, true)]), (some (0, (-2147483648), 2147483647), [((66, 18), (-1), (-1), false), ((66, 19), 1, 1, false), ((66, 16), 0, 120, true)])])
noncomputable def kl_124 : List jA := [((203, 45), [(1, (-2147483648), 2147483647), (2, 0, 1)], [((66, 16), 0, 119, true)], [], [], true, 2)]
noncomputable def ks_124 : List ((Nat × Nat) × Nat) := [((215, 22), 99)]
/-- compared1 -/
noncomputable def kc_125 : jC := (202, 34, [.inl (.ref 66)], [((66, 19), 1, 1, false)], [(66, 16), (66, 18), (66, 19)], [(some (0, (-2147483648), 2147483647), [((66, 18), 0, 120, false), ((66, 19), 1, 6, false), ((66, 16), 0, 120, true)]), (some (0, (-2147483648), 2147483647), [((66, 18), (-1), (-1), false), ((66, 19), 1, 1, false), ((66, 16), 0, 120, true)])])
noncomputable def kl_125 : List jA := []
noncomputable def ks_125 : List ((Nat × Nat) × Nat) := [((215, 22), 99)]
/-- both1 -/
noncomputable def kc_126 : jC := (201, 35, [.inl (.ref 66)], [((66, 19), 1, 1, false)], [(66, 16), (66, 18), (66, 19)], [(some (0, (-2147483648), 2147483647), [((66, 18), 0, 120, false), ((66, 19), 1, 6, false), ((66, 16), 0, 120, true)]), (some (0, (-2147483648), 2147483647), [((66, 18), (-1), (-1), false), ((66, 19), 1, 1, false), ((66, 16), 0, 120, true)])])
noncomputable def kl_126 : List jA := [((201, 14), [(1, (-2147483648), 2147483647)], [((66, 16), 0, 120, true)], [], [], true, 1)]
noncomputable def ks_126 : List ((Nat × Nat) × Nat) := [((215, 22), 99)]
/-- either1 -/
noncomputable def kc_127 : jC := (200, 36, [.inl (.ref 66)], [((66, 19), 1, 1, false)], [(66, 16), (66, 18), (66, 19)], [(some (0, (-2147483648), 2147483647), [((66, 18), 0, 120, false), ((66, 19), 1, 6, false), ((66, 16), 0, 120, true)]), (some (0, (-2147483648), 2147483647), [((66, 18), (-1), (-1), false), ((66, 19), 1, 1, false), ((66, 16), 0, 120, true)])])
noncomputable def kl_127 : List jA := [((200, 14), [(1, (-2147483648), 2147483647)], [((66, 16), 0, 120, true)], [], [], true, 1)]
noncomputable def ks_127 : List ((Nat × Nat) × Nat) := [((215, 22), 99)]
/-- one0 -/
noncomputable def kc_128 : jC := (206, 37, [.inl (.ref 66)], [((66, 19), 0, 0, false)], [(66, 16), (66, 18), (66, 19)], [(some (0, (-2147483648), 2147483647), [((66, 18), 0, 120, false), ((66, 19), 0, 6, false), ((66, 16), 0, 120, true)]), (some (0, (-2147483648), 2147483647), [((66, 18), (-1), (-1), false), ((66, 19), 0, 0, false), ((66, 16), 0, 120, true)])])
noncomputable def kl_128 : List jA := [((206, 176), [(3, (-2147483648), 2147483647), (4, 0, 4)], [((66, 16), 0, 120, true)], [], [], true, 1)]
noncomputable def ks_128 : List ((Nat × Nat) × Nat) := [((215, 22), 99)]
/-- product0 -/
noncomputable def kc_129 : jC := (204, 38, [.inl (.ref 66)], [((66, 19), 0, 0, false)], [(66, 16), (66, 18), (66, 19)], [(some (0, (-2147483648), 2147483647), [((66, 18), 0, 120, false), ((66, 19), 0, 6, false), ((66, 16), 0, 120, true)]), (some (0, (-2147483648), 2147483647), [((66, 18), (-1), (-1), false), ((66, 19), 0, 0, false), ((66, 16), 0, 120, true)])])
noncomputable def kl_129 : List jA := [((204, 35), [(1, (-2147483648), 2147483647), (2, 37, 48)], [((66, 16), 0, 119, true)], [], [], true, 2)]
noncomputable def ks_129 : List ((Nat × Nat) × Nat) := [((215, 22), 99)]
/-- sums0 -/
noncomputable def kc_130 : jC := (203, 39, [.inl (.ref 66)], [((66, 19), 0, 0, false)], [(66, 16), (66, 18), (66, 19)], [(some (0, (-2147483648), 2147483647), [((66, 18), 0, 120, false), ((66, 19), 0, 6, false), ((66, 16), 0, 120, true)]), (some (0, (-2147483648), 2147483647), [((66, 18), (-1), (-1), false), ((66, 19), 0, 0, false), ((66, 16), 0, 120, true)])])
noncomputable def kl_130 : List jA := [((203, 45), [(1, (-2147483648), 2147483647), (2, 0, 1)], [((66, 16), 0, 119, true)], [], [], true, 2)]
noncomputable def ks_130 : List ((Nat × Nat) × Nat) := [((215, 22), 99)]
/-- compared0 -/
noncomputable def kc_131 : jC := (202, 40, [.inl (.ref 66)], [((66, 19), 0, 0, false)], [(66, 16), (66, 18), (66, 19)], [(some (0, (-2147483648), 2147483647), [((66, 18), 0, 120, false), ((66, 19), 0, 6, false), ((66, 16), 0, 120, true)]), (some (0, (-2147483648), 2147483647), [((66, 18), (-1), (-1), false), ((66, 19), 0, 0, false), ((66, 16), 0, 120, true)])])
noncomputable def kl_131 : List jA := []
noncomputable def ks_131 : List ((Nat × Nat) × Nat) := [((215, 22), 99)]
/-- both0 -/
noncomputable def kc_132 : jC := (201, 41, [.inl (.ref 66)], [((66, 19), 0, 0, false)], [(66, 16), (66, 18), (66, 19)], [(some (0, (-2147483648), 2147483647), [((66, 18), 0, 120, false), ((66, 19), 0, 6, false), ((66, 16), 0, 120, true)]), (some (0, (-2147483648), 2147483647), [((66, 18), (-1), (-1), false), ((66, 19), 0, 0, false), ((66, 16), 0, 120, true)])])
noncomputable def kl_132 : List jA := [((201, 14), [(1, (-2147483648), 2147483647)], [((66, 16), 0, 120, true)], [], [], true, 1)]
noncomputable def ks_132 : List ((Nat × Nat) × Nat) := [((215, 22), 99)]
/-- either0 -/
noncomputable def kc_133 : jC := (200, 42, [.inl (.ref 66)], [((66, 19), 0, 0, false)], [(66, 16), (66, 18), (66, 19)], [(some (0, (-2147483648), 2147483647), [((66, 18), 0, 120, false), ((66, 19), 0, 6, false), ((66, 16), 0, 120, true)]), (some (0, (-2147483648), 2147483647), [((66, 18), (-1), (-1), false), ((66, 19), 0, 0, false), ((66, 16), 0, 120, true)])])
noncomputable def kl_133 : List jA := [((200, 14), [(1, (-2147483648), 2147483647)], [((66, 16), 0, 120, true)], [], [], true, 1)]
noncomputable def ks_133 : List ((Nat × Nat) × Nat) := [((215, 22), 99)]
/-- workOut -/
noncomputable def kc_134 : jC := (207, 43, [.inl (.ref 66), .inr (0, (-1), 0), .inr (0, 0, 120)], [], [(66, 15), (66, 16), (66, 17), (66, 18), (66, 19)], [(some (0, (-2147483648), 2147483647), [])])
noncomputable def kl_134 : List jA := [((207, 38), [(3, 0, 1), (4, (-2147483648), 2147483647)], [((66, 16), 0, 120, true)], [], [], true, 2)]
noncomputable def ks_134 : List ((Nat × Nat) × Nat) := [((215, 22), 99)]
/-- areAlike -/
noncomputable def kc_135 : jC := (209, 44, [.inl (.ref 66), .inr (0, 0, 63), .inr (0, 0, 63), .inr (0, (-2147483648), 2147483647), .inr (0, (-2147483648), 2147483647)], [], [(66, 15), (66, 16), (66, 17), (66, 18), (66, 19), (77, 9999)], [(some (0, 0, 1), [])])
noncomputable def kl_135 : List jA := []
noncomputable def ks_135 : List ((Nat × Nat) × Nat) := [((215, 22), 99)]
/-- isAlike -/
noncomputable def kc_136 : jC := (211, 45, [.inl (.ref 66), .inr (0, 0, 6), .inr (0, 0, 6)], [], [(66, 15), (66, 16), (66, 17), (66, 18), (66, 19), (77, 9999)], [(some (0, 0, 1), [])])
noncomputable def kl_136 : List jA := []
noncomputable def ks_136 : List ((Nat × Nat) × Nat) := [((215, 22), 99)]
/-- asksLikes -/
noncomputable def kc_137 : jC := (213, 46, [.inl (.ref 66)], [], [(66, 15), (66, 16), (66, 17), (66, 18), (66, 19), (77, 9999), (78, 9999)], [(none, [])])
noncomputable def kl_137 : List jA := [((213, 2), [(1, 0, 7)], [], [], [], true, 0), ((213, 19), [(2, 0, 7)], [], [(78, 9999)], [], true, 0)]
noncomputable def ks_137 : List ((Nat × Nat) × Nat) := [((215, 22), 99)]
/-- isShut -/
noncomputable def kc_138 : jC := (214, 1, [.inl (.ref 66), .inr (0, 0, 6), .inr (0, (-2147483648), 2147483647), .inr (0, 0, 29)], [], [], [(some (0, 0, 1), [])])
noncomputable def kl_138 : List jA := [((214, 3), [(4, 0, 7)], [], [], [], true, 0)]
noncomputable def ks_138 : List ((Nat × Nat) × Nat) := [((215, 22), 99)]
/-- minutesOfM -/
noncomputable def kc_139 : jC := (193, 0, [.inl (.ref 66), .inr (0, 0, 6)], [], [], [(some (0, (-2147483648), 2147483647), [])])
noncomputable def kl_139 : List jA := [((193, 4), [(2, (-2147483648), 2147483647), (3, 0, 4)], [], [], [], true, 1)]
noncomputable def ks_139 : List ((Nat × Nat) × Nat) := [((215, 22), 99)]
/-- plansOne -/
noncomputable def kc_140 : jC := (216, 3, [.inl (.ref 66), .inr (0, 0, 6)], [], [(66, 25), (79, 9999), (80, 9999), (81, 9999)], [(none, [])])
noncomputable def kl_140 : List jA := [((215, 30), [(6, (-2147483648), 2147483647), (7, 0, 30)], [], [], [], true, 1), ((216, 2), [(2, 0, 30)], [], [], [], true, 0), ((216, 37), [(2, 0, 30), (3, 0, 4)], [], [(80, 9999)], [], true, 1), ((216, 84), [(2, 0, 30), (5, 0, 6)], [], [], [], true, 1), ((216, 177), [(3, 0, 30)], [], [], [], true, 0)]
noncomputable def ks_140 : List ((Nat × Nat) × Nat) := [((215, 22), 99)]
/-- plansNow -/
noncomputable def kc_141 : jC := (217, 47, [.inl (.ref 66), .inr (0, (-2147483648), 2147483647)], [], [(66, 15), (66, 16), (66, 17), (66, 18), (66, 19), (66, 25), (77, 9999), (78, 9999), (79, 9999), (80, 9999), (81, 9999)], [(none, [])])
noncomputable def kl_141 : List jA := [((217, 11), [(2, 0, 7)], [], [(66, 25)], [], true, 0)]
noncomputable def ks_141 : List ((Nat × Nat) × Nat) := [((215, 22), 99)]
/-- ordersOn7 -/
noncomputable def kc_142 : jC := (223, 0, [.inl (.ref 66), .inr (0, 7, 7), .inr (0, (-2147483648), 2147483647), .inr (0, (-2147483648), 2147483647)], [((66, 6), 7, 7, false)], [(66, 30), (85, 9999)], [(none, [])])
noncomputable def kl_142 : List jA := [((223, 32), [(4, 0, 7)], [], [], [], true, 0)]
noncomputable def ks_142 : List ((Nat × Nat) × Nat) := [((215, 22), 99)]
/-- ordersOn6 -/
noncomputable def kc_143 : jC := (223, 4, [.inl (.ref 66), .inr (0, 6, 6), .inr (0, (-2147483648), 2147483647), .inr (0, (-2147483648), 2147483647)], [((66, 6), 6, 7, false)], [(66, 25), (66, 30), (79, 9999), (80, 9999), (81, 9999), (84, 9999), (85, 9999)], [(none, [])])
noncomputable def kl_143 : List jA := [((223, 32), [(4, 0, 6)], [], [], [], true, 0), ((223, 65), [(4, 0, 7)], [], [(66, 30)], [], true, 0)]
noncomputable def ks_143 : List ((Nat × Nat) × Nat) := [((215, 22), 99)]
/-- ordersOn5 -/
noncomputable def kc_144 : jC := (223, 5, [.inl (.ref 66), .inr (0, 5, 5), .inr (0, (-2147483648), 2147483647), .inr (0, (-2147483648), 2147483647)], [((66, 6), 5, 7, false)], [(66, 25), (66, 30), (79, 9999), (80, 9999), (81, 9999), (84, 9999), (85, 9999)], [(none, [])])
noncomputable def kl_144 : List jA := [((223, 32), [(4, 0, 5)], [], [], [], true, 0), ((223, 65), [(4, 0, 7)], [], [(66, 30)], [], true, 0)]
noncomputable def ks_144 : List ((Nat × Nat) × Nat) := [((215, 22), 99)]
/-- ordersOn4 -/
noncomputable def kc_145 : jC := (223, 6, [.inl (.ref 66), .inr (0, 4, 4), .inr (0, (-2147483648), 2147483647), .inr (0, (-2147483648), 2147483647)], [((66, 6), 4, 7, false)], [(66, 25), (66, 30), (79, 9999), (80, 9999), (81, 9999), (84, 9999), (85, 9999)], [(none, [])])
noncomputable def kl_145 : List jA := [((223, 32), [(4, 0, 4)], [], [], [], true, 0), ((223, 65), [(4, 0, 7)], [], [(66, 30)], [], true, 0)]
noncomputable def ks_145 : List ((Nat × Nat) × Nat) := [((215, 22), 99)]
/-- ordersOn3 -/
noncomputable def kc_146 : jC := (223, 7, [.inl (.ref 66), .inr (0, 3, 3), .inr (0, (-2147483648), 2147483647), .inr (0, (-2147483648), 2147483647)], [((66, 6), 3, 7, false)], [(66, 25), (66, 30), (79, 9999), (80, 9999), (81, 9999), (84, 9999), (85, 9999)], [(none, [])])
noncomputable def kl_146 : List jA := [((223, 32), [(4, 0, 3)], [], [], [], true, 0), ((223, 65), [(4, 0, 7)], [], [(66, 30)], [], true, 0)]
noncomputable def ks_146 : List ((Nat × Nat) × Nat) := [((215, 22), 99)]
/-- ordersOn2 -/
noncomputable def kc_147 : jC := (223, 8, [.inl (.ref 66), .inr (0, 2, 2), .inr (0, (-2147483648), 2147483647), .inr (0, (-2147483648), 2147483647)], [((66, 6), 2, 7, false)], [(66, 25), (66, 30), (79, 9999), (80, 9999), (81, 9999), (84, 9999), (85, 9999)], [(none, [])])
noncomputable def kl_147 : List jA := [((223, 32), [(4, 0, 2)], [], [], [], true, 0), ((223, 65), [(4, 0, 7)], [], [(66, 30)], [], true, 0)]
noncomputable def ks_147 : List ((Nat × Nat) × Nat) := [((215, 22), 99)]
/-- ordersOn1 -/
noncomputable def kc_148 : jC := (223, 9, [.inl (.ref 66), .inr (0, 1, 1), .inr (0, (-2147483648), 2147483647), .inr (0, (-2147483648), 2147483647)], [((66, 6), 1, 7, false)], [(66, 25), (66, 30), (79, 9999), (80, 9999), (81, 9999), (84, 9999), (85, 9999)], [(none, [])])
noncomputable def kl_148 : List jA := [((223, 32), [(4, 0, 1)], [], [], [], true, 0), ((223, 65), [(4, 0, 7)], [], [(66, 30)], [], true, 0)]
noncomputable def ks_148 : List ((Nat × Nat) × Nat) := [((215, 22), 99)]
/-- ordersOn0 -/
noncomputable def kc_149 : jC := (223, 10, [.inl (.ref 66), .inr (0, 0, 0), .inr (0, (-2147483648), 2147483647), .inr (0, (-2147483648), 2147483647)], [((66, 6), 0, 7, false)], [(66, 25), (66, 30), (79, 9999), (80, 9999), (81, 9999), (84, 9999), (85, 9999)], [(none, [])])
noncomputable def kl_149 : List jA := [((223, 65), [(4, 0, 7)], [], [(66, 30)], [], true, 0)]
noncomputable def ks_149 : List ((Nat × Nat) × Nat) := [((215, 22), 99)]
/-- asksHats -/
noncomputable def kc_150 : jC := (229, 45, [.inl (.ref 66)], [], [(66, 15), (66, 16), (66, 17), (66, 18), (66, 19), (77, 9999), (86, 9999)], [(none, [])])
noncomputable def kl_150 : List jA := [((229, 2), [(1, 0, 7)], [], [], [], true, 0), ((229, 12), [(2, 0, 6)], [], [], [], true, 0), ((229, 19), [(3, 0, 49)], [], [], [], true, 0)]
noncomputable def ks_150 : List ((Nat × Nat) × Nat) := [((215, 22), 99)]
/-- wearsFrom7 -/
noncomputable def kc_151 : jC := (230, 0, [.inl (.ref 66), .inr (0, 7, 7), .inr (0, (-2147483648), 2147483647)], [((66, 6), 7, 7, false)], [], [(some (0, 0, 1), [])])
noncomputable def kl_151 : List jA := []
noncomputable def ks_151 : List ((Nat × Nat) × Nat) := [((215, 22), 99)]
/-- wearsFrom6 -/
noncomputable def kc_152 : jC := (230, 2, [.inl (.ref 66), .inr (0, 6, 6), .inr (0, (-2147483648), 2147483647)], [((66, 6), 6, 7, false)], [(87, 9999)], [(some (0, 0, 1), [])])
noncomputable def kl_152 : List jA := [((230, 20), [(3, 0, 7)], [], [], [], true, 0), ((230, 53), [(4, 0, 1), (5, 0, 6)], [], [], [], true, 1)]
noncomputable def ks_152 : List ((Nat × Nat) × Nat) := [((215, 22), 99)]
/-- wearsFrom5 -/
noncomputable def kc_153 : jC := (230, 3, [.inl (.ref 66), .inr (0, 5, 5), .inr (0, (-2147483648), 2147483647)], [((66, 6), 5, 7, false)], [(87, 9999)], [(some (0, 0, 1), [])])
noncomputable def kl_153 : List jA := [((230, 20), [(3, 0, 7)], [], [], [], true, 0), ((230, 53), [(4, 0, 1), (5, 0, 5)], [], [], [], true, 1)]
noncomputable def ks_153 : List ((Nat × Nat) × Nat) := [((215, 22), 99)]
/-- wearsFrom4 -/
noncomputable def kc_154 : jC := (230, 4, [.inl (.ref 66), .inr (0, 4, 4), .inr (0, (-2147483648), 2147483647)], [((66, 6), 4, 7, false)], [(87, 9999)], [(some (0, 0, 1), [])])
noncomputable def kl_154 : List jA := [((230, 20), [(3, 0, 7)], [], [], [], true, 0), ((230, 53), [(4, 0, 1), (5, 0, 4)], [], [], [], true, 1)]
noncomputable def ks_154 : List ((Nat × Nat) × Nat) := [((215, 22), 99)]
/-- wearsFrom3 -/
noncomputable def kc_155 : jC := (230, 5, [.inl (.ref 66), .inr (0, 3, 3), .inr (0, (-2147483648), 2147483647)], [((66, 6), 3, 7, false)], [(87, 9999)], [(some (0, 0, 1), [])])
noncomputable def kl_155 : List jA := [((230, 20), [(3, 0, 7)], [], [], [], true, 0), ((230, 53), [(4, 0, 1), (5, 0, 3)], [], [], [], true, 1)]
noncomputable def ks_155 : List ((Nat × Nat) × Nat) := [((215, 22), 99)]
/-- wearsFrom2 -/
noncomputable def kc_156 : jC := (230, 6, [.inl (.ref 66), .inr (0, 2, 2), .inr (0, (-2147483648), 2147483647)], [((66, 6), 2, 7, false)], [(87, 9999)], [(some (0, 0, 1), [])])
noncomputable def kl_156 : List jA := [((230, 20), [(3, 0, 7)], [], [], [], true, 0), ((230, 53), [(4, 0, 1), (5, 0, 2)], [], [], [], true, 1)]
noncomputable def ks_156 : List ((Nat × Nat) × Nat) := [((215, 22), 99)]
/-- wearsFrom1 -/
noncomputable def kc_157 : jC := (230, 7, [.inl (.ref 66), .inr (0, 1, 1), .inr (0, (-2147483648), 2147483647)], [((66, 6), 1, 7, false)], [(87, 9999)], [(some (0, 0, 1), [])])
noncomputable def kl_157 : List jA := [((230, 20), [(3, 0, 7)], [], [], [], true, 0), ((230, 53), [(4, 0, 1), (5, 0, 1)], [], [], [], true, 1)]
noncomputable def ks_157 : List ((Nat × Nat) × Nat) := [((215, 22), 99)]
/-- wearsFrom0 -/
noncomputable def kc_158 : jC := (230, 8, [.inl (.ref 66), .inr (0, 0, 0), .inr (0, (-2147483648), 2147483647)], [((66, 6), 0, 7, false)], [(87, 9999)], [(some (0, 0, 1), [])])
noncomputable def kl_158 : List jA := [((230, 20), [(3, 0, 7)], [], [], [], true, 0)]
noncomputable def ks_158 : List ((Nat × Nat) × Nat) := [((215, 22), 99)]
/-- isKindM -/
noncomputable def kc_159 : jC := (233, 1, [.inl (.ref 66), .inr (0, (-2147483648), 2147483647)], [], [], [(some (0, 0, 1), [])])
noncomputable def kl_159 : List jA := [((233, 2), [(2, 0, 7)], [], [], [], true, 0)]
noncomputable def ks_159 : List ((Nat × Nat) × Nat) := [((215, 22), 99)]
/-- doBar -/
noncomputable def kc_160 : jC := (240, 1, [.inl (.ref 66), .inr (0, 0, 9), .inr (0, 0, 9), .inr (0, (-2147483648), 2147483647)], [], [], [(some (0, 0, 1), [])])
noncomputable def kl_160 : List jA := []
noncomputable def ks_160 : List ((Nat × Nat) × Nat) := [((215, 22), 99)]
/-- isOne -/
noncomputable def kc_161 : jC := (241, 1, [.inl (.ref 66), .inr (0, (-2147483648), 2147483647)], [], [], [(some (0, 0, 1), [])])
noncomputable def kl_161 : List jA := [((241, 2), [(2, 0, 10)], [], [], [], true, 0)]
noncomputable def ks_161 : List ((Nat × Nat) × Nat) := [((215, 22), 99)]
/-- canBe -/
noncomputable def kc_162 : jC := (243, 2, [.inl (.ref 66), .inr (0, 0, 6), .inr (0, (-2147483648), 2147483647)], [], [], [(some (0, 0, 1), [])])
noncomputable def kl_162 : List jA := [((243, 13), [(3, 0, 7)], [], [], [], true, 0)]
noncomputable def ks_162 : List ((Nat × Nat) × Nat) := [((215, 22), 99)]
/-- whoIs -/
noncomputable def kc_163 : jC := (244, 3, [.inl (.ref 66), .inr (0, 0, 9)], [], [], [(some (0, 0, 127), [])])
noncomputable def kl_163 : List jA := [((244, 4), [(2, 0, 127), (3, 0, 7)], [], [], [], true, 1)]
noncomputable def ks_163 : List ((Nat × Nat) × Nat) := [((215, 22), 99)]
/-- X.person -/
noncomputable def kc_164 : jC := (125, 1, [.inl (.ref 0), .inr (0, (-2147483648), 2147483647), .inr (0, (-2147483648), 2147483647)], [], [(13, 7), (14, 9999), (15, 9999)], [(some (0, (-3), 6), [])])
noncomputable def kl_164 : List jA := []
noncomputable def ks_164 : List ((Nat × Nat) × Nat) := [((114, 0), 1), ((115, 0), 1), ((215, 22), 99)]
/-- M.person -/
noncomputable def kc_165 : jC := (185, 2, [.inl (.ref 66), .inr (0, (-2147483648), 2147483647), .inr (0, (-2147483648), 2147483647)], [], [(66, 6), (67, 9999)], [(some (0, (-3), 6), [])])
noncomputable def kl_165 : List jA := []
noncomputable def ks_165 : List ((Nat × Nat) × Nat) := [((215, 22), 99), ((257, 0), 1), ((258, 0), 1), ((259, 0), 1), ((260, 0), 1)]
/-- X.people -/
noncomputable def kc_166 : jC := (126, 2, [.inl (.ref 0), .inr (0, (-2147483648), 2147483647), .inr (0, (-2147483648), 2147483647), .inr (0, (-2147483648), 2147483647)], [], [(13, 7), (14, 9999), (15, 9999)], [(some (0, (-12), 7), [])])
noncomputable def kl_166 : List jA := [((127, 22), [(5, 0, 7), (6, 0, 2147483647)], [], [], [], true, 0)]
noncomputable def ks_166 : List ((Nat × Nat) × Nat) := [((114, 0), 1), ((115, 0), 1), ((215, 22), 99)]
/-- M.people -/
noncomputable def kc_167 : jC := (186, 2, [.inl (.ref 66), .inr (0, (-2147483648), 2147483647), .inr (0, (-2147483648), 2147483647), .inr (0, (-2147483648), 2147483647)], [], [(66, 6), (67, 9999)], [(some (0, (-12), 7), [])])
noncomputable def kl_167 : List jA := []
noncomputable def ks_167 : List ((Nat × Nat) × Nat) := [((215, 22), 99), ((257, 0), 1), ((258, 0), 1), ((259, 0), 1), ((260, 0), 1)]
/-- X.errand -/
noncomputable def kc_168 : jC := (128, 1, [.inl (.ref 0), .inr (0, (-2147483648), 2147483647), .inr (0, (-2147483648), 2147483647)], [], [(17, 9999), (18, 9999), (19, 9999)], [(some (0, (-3), 4), [])])
noncomputable def kl_168 : List jA := []
noncomputable def ks_168 : List ((Nat × Nat) × Nat) := [((114, 0), 1), ((115, 0), 1), ((215, 22), 99)]
/-- M.errand -/
noncomputable def kc_169 : jC := (187, 2, [.inl (.ref 66), .inr (0, (-2147483648), 2147483647), .inr (0, (-2147483648), 2147483647)], [], [(72, 9999), (73, 9999), (74, 9999)], [(some (0, (-3), 4), [])])
noncomputable def kl_169 : List jA := []
noncomputable def ks_169 : List ((Nat × Nat) × Nat) := [((215, 22), 99), ((257, 0), 1), ((258, 0), 1), ((259, 0), 1), ((260, 0), 1)]
/-- X.clear -/
noncomputable def kc_170 : jC := (129, 1, [.inl (.ref 0), .inr (0, (-2147483648), 2147483647)], [], [(17, 9999)], [(some (0, (-1), 4), [])])
noncomputable def kl_170 : List jA := []
noncomputable def ks_170 : List ((Nat × Nat) × Nat) := [((114, 0), 1), ((115, 0), 1), ((215, 22), 99)]
/-- M.clear -/
noncomputable def kc_171 : jC := (188, 2, [.inl (.ref 66), .inr (0, (-2147483648), 2147483647)], [], [(72, 9999)], [(some (0, (-1), 4), [])])
noncomputable def kl_171 : List jA := []
noncomputable def ks_171 : List ((Nat × Nat) × Nat) := [((215, 22), 99), ((257, 0), 1), ((258, 0), 1), ((259, 0), 1), ((260, 0), 1)]
/-- X.hat -/
noncomputable def kc_172 : jC := (130, 1, [.inl (.ref 0), .inr (0, (-2147483648), 2147483647), .inr (0, (-2147483648), 2147483647)], [], [(2, 9999)], [(some (0, (-2000000000), 5), [])])
noncomputable def kl_172 : List jA := []
noncomputable def ks_172 : List ((Nat × Nat) × Nat) := [((114, 0), 1), ((115, 0), 1), ((215, 22), 99)]
/-- M.hat -/
noncomputable def kc_173 : jC := (189, 2, [.inl (.ref 66), .inr (0, (-2147483648), 2147483647), .inr (0, (-2147483648), 2147483647)], [], [(71, 9999)], [(some (0, (-2000000000), 5), [])])
noncomputable def kl_173 : List jA := []
noncomputable def ks_173 : List ((Nat × Nat) × Nat) := [((215, 22), 99), ((257, 0), 1), ((258, 0), 1), ((259, 0), 1), ((260, 0), 1)]
/-- X.mend -/
noncomputable def kc_174 : jC := (131, 2, [.inl (.ref 0), .inr (0, (-2147483648), 2147483647), .inr (0, (-2147483648), 2147483647), .inr (0, (-2147483648), 2147483647)], [], [(13, 8), (13, 9), (14, 9999), (15, 9999), (16, 9999), (52, 5), (52, 6), (53, 9999), (54, 9999), (55, 9999), (56, 9999)], [(some (0, (-1), 63), [])])
noncomputable def kl_174 : List jA := [((2, 2), [(1, 1, 40)], [], [], [], true, 0)]
noncomputable def ks_174 : List ((Nat × Nat) × Nat) := [((114, 0), 1), ((115, 0), 1), ((215, 22), 99)]
/-- M.mend -/
noncomputable def kc_175 : jC := (190, 2, [.inl (.ref 66), .inr (0, (-2147483648), 2147483647), .inr (0, (-2147483648), 2147483647), .inr (0, (-2147483648), 2147483647)], [], [(66, 4), (66, 5), (67, 9999), (68, 9999), (69, 9999), (70, 9999)], [(some (0, (-1), 63), [])])
noncomputable def kl_175 : List jA := [((178, 26), [(4, 1, 40)], [], [], [], true, 0)]
noncomputable def ks_175 : List ((Nat × Nat) × Nat) := [((215, 22), 99), ((257, 0), 1), ((258, 0), 1), ((259, 0), 1), ((260, 0), 1)]
/-- X.of -/
noncomputable def kc_176 : jC := (133, 3, [.inl (.ref 0), .inr (0, (-2147483648), 2147483647), .inr (0, (-2147483648), 2147483647)], [], [], [(some (0, (-2147483648), 2147483647), [])])
noncomputable def kl_176 : List jA := [((12, 4), [(2, (-2147483648), 2147483647), (3, 0, 4)], [], [], [], true, 1)]
noncomputable def ks_176 : List ((Nat × Nat) × Nat) := [((114, 0), 1), ((115, 0), 1), ((215, 22), 99)]
/-- M.of -/
noncomputable def kc_177 : jC := (195, 3, [.inl (.ref 66), .inr (0, (-2147483648), 2147483647), .inr (0, (-2147483648), 2147483647)], [], [], [(some (0, (-2147483648), 2147483647), [])])
noncomputable def kl_177 : List jA := []
noncomputable def ks_177 : List ((Nat × Nat) × Nat) := [((215, 22), 99), ((257, 0), 1), ((258, 0), 1), ((259, 0), 1), ((260, 0), 1)]
/-- X.feed -/
noncomputable def kc_178 : jC := (136, 1, [.inl (.ref 0), .inr (0, (-2147483648), 2147483647)], [], [(25, 2), (31, 9999)], [(some (0, (-3), 120), [])])
noncomputable def kl_178 : List jA := []
noncomputable def ks_178 : List ((Nat × Nat) × Nat) := [((114, 0), 1), ((115, 0), 1), ((215, 22), 99)]
/-- M.feed -/
noncomputable def kc_179 : jC := (196, 1, [.inl (.ref 66), .inr (0, (-2147483648), 2147483647)], [], [(66, 12), (75, 9999)], [(some (0, (-3), 120), [])])
noncomputable def kl_179 : List jA := []
noncomputable def ks_179 : List ((Nat × Nat) × Nat) := [((215, 22), 99), ((257, 0), 1), ((258, 0), 1), ((259, 0), 1), ((260, 0), 1)]
/-- X.law -/
noncomputable def kc_180 : jC := (137, 52, [.inl (.ref 0)], [], [(20, 2), (21, 9999), (22, 9999), (25, 2), (25, 3), (26, 2), (27, 9999), (28, 9999)], [(some (0, (-220), 1), [])])
noncomputable def kl_180 : List jA := [((93, 17), [(1, 0, 1), (2, 0, 121)], [], [(25, 3), (26, 2)], [], true, 1)]
noncomputable def ks_180 : List ((Nat × Nat) × Nat) := [((114, 0), 1), ((115, 0), 1), ((215, 22), 99)]
/-- M.law -/
noncomputable def kc_181 : jC := (208, 44, [.inl (.ref 66)], [], [(66, 12), (66, 14), (66, 15), (66, 16), (66, 17), (66, 18), (66, 19), (76, 9999)], [(some (0, (-220), 1), [])])
noncomputable def kl_181 : List jA := [((208, 37), [(3, 0, 120)], [], [], [], true, 0)]
noncomputable def ks_181 : List ((Nat × Nat) × Nat) := [((215, 22), 99), ((257, 0), 1), ((258, 0), 1), ((259, 0), 1), ((260, 0), 1)]
/-- X.alike -/
noncomputable def kc_182 : jC := (138, 4, [.inl (.ref 0), .inr (0, (-2147483648), 2147483647)], [], [(20, 4), (23, 9999), (24, 9999)], [(some (0, (-1), 1), [])])
noncomputable def kl_182 : List jA := []
noncomputable def ks_182 : List ((Nat × Nat) × Nat) := [((114, 0), 1), ((115, 0), 1), ((215, 22), 99)]
/-- M.alike -/
noncomputable def kc_183 : jC := (212, 46, [.inl (.ref 66), .inr (0, (-2147483648), 2147483647)], [], [(66, 15), (66, 16), (66, 17), (66, 18), (66, 19), (77, 9999)], [(some (0, (-1), 1), [])])
noncomputable def kl_183 : List jA := []
noncomputable def ks_183 : List ((Nat × Nat) × Nat) := [((215, 22), 99), ((257, 0), 1), ((258, 0), 1), ((259, 0), 1), ((260, 0), 1)]
/-- X.plan -/
noncomputable def kc_184 : jC := (139, 6, [.inl (.ref 0)], [], [(20, 4), (23, 9999), (24, 9999), (33, 9999), (34, 12), (35, 9999), (36, 9999), (37, 9999), (38, 9999), (39, 9999), (42, 9999), (43, 9999)], [(some (0, (-2147483648), 2147483647), [])])
noncomputable def kl_184 : List jA := [((30, 4), [(1, (-2147483648), 2147483647), (2, 0, 7)], [], [], [], true, 1), ((32, 2), [(1, 0, 7)], [], [], [], true, 0)]
noncomputable def ks_184 : List ((Nat × Nat) × Nat) := [((114, 0), 1), ((115, 0), 1), ((215, 22), 99)]
/-- M.plan -/
noncomputable def kc_185 : jC := (220, 48, [.inl (.ref 66)], [], [(66, 15), (66, 16), (66, 17), (66, 18), (66, 19), (66, 25), (77, 9999), (78, 9999), (79, 9999), (80, 9999), (81, 9999), (82, 9999), (83, 9999)], [(some (0, (-2147483648), 2147483647), [])])
noncomputable def kl_185 : List jA := [((219, 4), [(1, (-2147483648), 2147483647), (2, 0, 7)], [], [], [], true, 1), ((220, 7), [(1, 0, 7)], [], [], [], true, 0), ((220, 33), [(2, 0, 30)], [], [(82, 9999), (83, 9999)], [], true, 0)]
noncomputable def ks_185 : List ((Nat × Nat) × Nat) := [((215, 22), 99), ((257, 0), 1), ((258, 0), 1), ((259, 0), 1), ((260, 0), 1)]
/-- X.where -/
noncomputable def kc_186 : jC := (140, 6, [.inl (.ref 0), .inr (0, (-2147483648), 2147483647), .inr (0, (-2147483648), 2147483647)], [], [(20, 4), (23, 9999), (24, 9999), (33, 9999), (35, 9999), (36, 9999), (37, 9999), (38, 9999), (39, 9999)], [(some (0, (-2000000000), 4), [])])
noncomputable def kl_186 : List jA := [((31, 2), [(3, 0, 5)], [], [], [], true, 0)]
noncomputable def ks_186 : List ((Nat × Nat) × Nat) := [((114, 0), 1), ((115, 0), 1), ((215, 22), 99)]
/-- M.where -/
noncomputable def kc_187 : jC := (221, 48, [.inl (.ref 66), .inr (0, (-2147483648), 2147483647), .inr (0, (-2147483648), 2147483647)], [], [(66, 15), (66, 16), (66, 17), (66, 18), (66, 19), (66, 25), (77, 9999), (78, 9999), (79, 9999), (80, 9999), (81, 9999)], [(some (0, (-2147483648), 2147483647), [])])
noncomputable def kl_187 : List jA := []
noncomputable def ks_187 : List ((Nat × Nat) × Nat) := [((215, 22), 99), ((257, 0), 1), ((258, 0), 1), ((259, 0), 1), ((260, 0), 1)]
/-- X.waited -/
noncomputable def kc_188 : jC := (141, 6, [.inl (.ref 0), .inr (0, (-2147483648), 2147483647), .inr (0, (-2147483648), 2147483647)], [], [(20, 4), (23, 9999), (24, 9999), (33, 9999), (35, 9999), (36, 9999), (37, 9999), (38, 9999), (39, 9999)], [(some (0, (-2147483648), 2147483647), [])])
noncomputable def kl_188 : List jA := []
noncomputable def ks_188 : List ((Nat × Nat) × Nat) := [((114, 0), 1), ((115, 0), 1), ((215, 22), 99)]
/-- M.waited -/
noncomputable def kc_189 : jC := (222, 48, [.inl (.ref 66), .inr (0, (-2147483648), 2147483647), .inr (0, (-2147483648), 2147483647)], [], [(66, 15), (66, 16), (66, 17), (66, 18), (66, 19), (66, 25), (77, 9999), (78, 9999), (79, 9999), (80, 9999), (81, 9999)], [(some (0, (-2147483648), 2147483647), [])])
noncomputable def kl_189 : List jA := []
noncomputable def ks_189 : List ((Nat × Nat) × Nat) := [((215, 22), 99), ((257, 0), 1), ((258, 0), 1), ((259, 0), 1), ((260, 0), 1)]
/-- X.best -/
noncomputable def kc_190 : jC := (142, 17, [.inl (.ref 0), .inr (0, (-2147483648), 2147483647)], [], [(20, 4), (23, 9999), (24, 9999), (33, 9999), (34, 9), (35, 9999), (36, 9999), (37, 9999), (38, 9999), (39, 9999), (40, 9999), (41, 9999)], [(some (0, (-2147483648), 2147483647), [])])
noncomputable def kl_190 : List jA := []
noncomputable def ks_190 : List ((Nat × Nat) × Nat) := [((114, 0), 1), ((115, 0), 1), ((215, 22), 99)]
/-- M.best -/
noncomputable def kc_191 : jC := (224, 47, [.inl (.ref 66), .inr (0, (-2147483648), 2147483647)], [], [(66, 15), (66, 16), (66, 17), (66, 18), (66, 19), (66, 25), (66, 30), (77, 9999), (78, 9999), (79, 9999), (80, 9999), (81, 9999), (84, 9999), (85, 9999)], [(some (0, (-2147483648), 2147483647), [])])
noncomputable def kl_191 : List jA := []
noncomputable def ks_191 : List ((Nat × Nat) × Nat) := [((215, 22), 99), ((257, 0), 1), ((258, 0), 1), ((259, 0), 1), ((260, 0), 1)]
/-- X.bars -/
noncomputable def kc_192 : jC := (143, 6, [.inl (.ref 0), .inr (0, (-2147483648), 2147483647)], [], [(20, 4), (23, 9999), (24, 9999), (33, 9999), (35, 9999), (36, 9999), (37, 9999), (38, 9999), (39, 9999)], [(some (0, (-2), 5), [])])
noncomputable def kl_192 : List jA := [((33, 29), [(4, 0, 6)], [], [(38, 9999), (39, 9999)], [], true, 0)]
noncomputable def ks_192 : List ((Nat × Nat) × Nat) := [((114, 0), 1), ((115, 0), 1), ((215, 22), 99)]
/-- M.bars -/
noncomputable def kc_193 : jC := (225, 48, [.inl (.ref 66), .inr (0, (-2147483648), 2147483647)], [], [(66, 15), (66, 16), (66, 17), (66, 18), (66, 19), (66, 25), (77, 9999), (78, 9999), (79, 9999), (80, 9999), (81, 9999)], [(some (0, (-2), 5), [])])
noncomputable def kl_193 : List jA := [((225, 32), [(4, 0, 6)], [], [(80, 9999), (81, 9999)], [], true, 0)]
noncomputable def ks_193 : List ((Nat × Nat) × Nat) := [((215, 22), 99), ((257, 0), 1), ((258, 0), 1), ((259, 0), 1), ((260, 0), 1)]
/-- X.led -/
noncomputable def kc_194 : jC := (144, 1, [.inl (.ref 0), .inr (0, (-2147483648), 2147483647), .inr (0, (-2147483648), 2147483647)], [], [], [(some (0, (-2147483648), 2147483647), [])])
noncomputable def kl_194 : List jA := []
noncomputable def ks_194 : List ((Nat × Nat) × Nat) := [((114, 0), 1), ((115, 0), 1), ((215, 22), 99)]
/-- M.led -/
noncomputable def kc_195 : jC := (226, 2, [.inl (.ref 66), .inr (0, (-2147483648), 2147483647), .inr (0, (-2147483648), 2147483647)], [], [], [(some (0, (-2147483648), 2147483647), [])])
noncomputable def kl_195 : List jA := []
noncomputable def ks_195 : List ((Nat × Nat) × Nat) := [((215, 22), 99), ((257, 0), 1), ((258, 0), 1), ((259, 0), 1), ((260, 0), 1)]
/-- X.hats -/
noncomputable def kc_196 : jC := (145, 17, [.inl (.ref 0), .inr (0, (-2147483648), 2147483647)], [], [(20, 4), (23, 9999), (24, 9999), (44, 6), (45, 9999), (46, 9999), (47, 9999), (48, 9999)], [(some (0, (-2147483648), 2147483647), [])])
noncomputable def kl_196 : List jA := [((118, 2), [(1, 0, 7)], [], [], [], true, 0), ((118, 34), [(2, 0, 7)], [], [], [], true, 0)]
noncomputable def ks_196 : List ((Nat × Nat) × Nat) := [((114, 0), 1), ((115, 0), 1), ((215, 22), 99)]
/-- M.hats -/
noncomputable def kc_197 : jC := (231, 46, [.inl (.ref 66), .inr (0, (-2147483648), 2147483647)], [], [(66, 15), (66, 16), (66, 17), (66, 18), (66, 19), (77, 9999), (86, 9999), (87, 9999)], [(some (0, (-2000000000), 7), [])])
noncomputable def kl_197 : List jA := [((231, 22), [(2, 0, 8)], [], [], [], true, 0)]
noncomputable def ks_197 : List ((Nat × Nat) × Nat) := [((215, 22), 99), ((257, 0), 1), ((258, 0), 1), ((259, 0), 1), ((260, 0), 1)]
/-- X.needs -/
noncomputable def kc_198 : jC := (146, 5, [.inl (.ref 0)], [], [(20, 4), (23, 9999), (24, 9999)], [(some (0, (-2147483648), 2147483647), [])])
noncomputable def kl_198 : List jA := []
noncomputable def ks_198 : List ((Nat × Nat) × Nat) := [((114, 0), 1), ((115, 0), 1), ((215, 22), 99)]
/-- M.needs -/
noncomputable def kc_199 : jC := (232, 47, [.inl (.ref 66)], [], [(66, 15), (66, 16), (66, 17), (66, 18), (66, 19), (77, 9999), (78, 9999)], [(some (0, (-1073741824), 1073741823), [])])
noncomputable def kl_199 : List jA := [((232, 8), [(1, (-2147483648), 2147483647), (2, 0, 7)], [], [], [], true, 1)]
noncomputable def ks_199 : List ((Nat × Nat) × Nat) := [((215, 22), 99), ((257, 0), 1), ((258, 0), 1), ((259, 0), 1), ((260, 0), 1)]
/-- X.kinds -/
noncomputable def kc_200 : jC := (147, 6, [.inl (.ref 0), .inr (0, (-2147483648), 2147483647)], [], [(20, 4), (23, 9999), (24, 9999), (33, 9999)], [(some (0, (-1), 127), [])])
noncomputable def kl_200 : List jA := [((54, 8), [(1, 0, 127), (2, 1, 128)], [], [], [], true, 1)]
noncomputable def ks_200 : List ((Nat × Nat) × Nat) := [((114, 0), 1), ((115, 0), 1), ((215, 22), 99)]
/-- M.kinds -/
noncomputable def kc_201 : jC := (234, 47, [.inl (.ref 66), .inr (0, (-2147483648), 2147483647)], [], [(66, 15), (66, 16), (66, 17), (66, 18), (66, 19), (77, 9999), (78, 9999)], [(some (0, (-2147483648), 2147483647), [])])
noncomputable def kl_201 : List jA := [((234, 20), [(2, 0, 127), (3, 1, 128)], [], [], [], true, 1)]
noncomputable def ks_201 : List ((Nat × Nat) × Nat) := [((215, 22), 99), ((257, 0), 1), ((258, 0), 1), ((259, 0), 1), ((260, 0), 1)]
/-- X.pass -/
noncomputable def kc_202 : jC := (148, 5, [.inl (.ref 0), .inr (0, (-2147483648), 2147483647)], [], [(20, 4), (23, 9999), (24, 9999)], [(some (0, (-2000000000), 5), [])])
noncomputable def kl_202 : List jA := [((56, 2), [(3, (-1), 6)], [], [], [], true, 0)]
noncomputable def ks_202 : List ((Nat × Nat) × Nat) := [((114, 0), 1), ((115, 0), 1), ((215, 22), 99)]
/-- M.pass -/
noncomputable def kc_203 : jC := (235, 45, [.inl (.ref 66), .inr (0, (-2147483648), 2147483647)], [], [(66, 15), (66, 16), (66, 17), (66, 18), (66, 19), (77, 9999)], [(some (0, (-2000000000), 5), [])])
noncomputable def kl_203 : List jA := [((235, 24), [(4, (-1), 6)], [], [], [], true, 0)]
noncomputable def ks_203 : List ((Nat × Nat) × Nat) := [((215, 22), 99), ((257, 0), 1), ((258, 0), 1), ((259, 0), 1), ((260, 0), 1)]
/-- X.go -/
noncomputable def kc_204 : jC := (149, 1, [.inl (.ref 0), .inr (0, (-2147483648), 2147483647), .inr (0, (-2147483648), 2147483647), .inr (0, (-2147483648), 2147483647)], [], [(3, 9999)], [(some (0, (-98), 30), [])])
noncomputable def kl_204 : List jA := [((61, 3), [(5, 0, 119)], [], [], [], true, 0)]
noncomputable def ks_204 : List ((Nat × Nat) × Nat) := [((114, 0), 1), ((115, 0), 1), ((215, 22), 99)]
/-- M.go -/
noncomputable def kc_205 : jC := (236, 2, [.inl (.ref 66), .inr (0, (-2147483648), 2147483647), .inr (0, (-2147483648), 2147483647), .inr (0, (-2147483648), 2147483647)], [], [(88, 9999)], [(some (0, (-98), 30), [])])
noncomputable def kl_205 : List jA := [((236, 54), [(4, 0, 119)], [], [], [], true, 0)]
noncomputable def ks_205 : List ((Nat × Nat) × Nat) := [((215, 22), 99), ((257, 0), 1), ((258, 0), 1), ((259, 0), 1), ((260, 0), 1)]
/-- X.judge -/
noncomputable def kc_206 : jC := (150, 6, [.inl (.ref 0), .inr (0, (-2147483648), 2147483647)], [], [(20, 4), (23, 9999), (24, 9999), (33, 9999)], [(some (0, (-9), 29), [])])
noncomputable def kl_206 : List jA := [((81, 9), [(1, 0, 30)], [], [], [], true, 0)]
noncomputable def ks_206 : List ((Nat × Nat) × Nat) := [((114, 0), 1), ((115, 0), 1), ((215, 22), 99)]
/-- M.judge -/
noncomputable def kc_207 : jC := (237, 47, [.inl (.ref 66), .inr (0, (-2147483648), 2147483647)], [], [(66, 15), (66, 16), (66, 17), (66, 18), (66, 19), (77, 9999), (78, 9999)], [(some (0, (-2), 29), [])])
noncomputable def kl_207 : List jA := [((237, 20), [(2, 0, 30)], [], [], [], true, 0), ((237, 28), [(3, 0, 7)], [], [], [], true, 0), ((237, 41), [(4, 1, 7)], [], [], [], true, 0)]
noncomputable def ks_207 : List ((Nat × Nat) × Nat) := [((215, 22), 99), ((257, 0), 1), ((258, 0), 1), ((259, 0), 1), ((260, 0), 1)]
/-- X.watch -/
noncomputable def kc_208 : jC := (151, 2, [.inl (.ref 0), .inr (0, (-2147483648), 2147483647), .inr (0, (-2147483648), 2147483647)], [], [], [(some (0, (-2147483648), 2147483647), [])])
noncomputable def kl_208 : List jA := [((63, 2), [(3, 0, 30)], [], [], [], true, 0), ((64, 5), [(3, (-2147483648), 2147483647), (4, 0, 30)], [], [], [], true, 1)]
noncomputable def ks_208 : List ((Nat × Nat) × Nat) := [((114, 0), 1), ((115, 0), 1), ((215, 22), 99)]
/-- M.watch -/
noncomputable def kc_209 : jC := (238, 3, [.inl (.ref 66), .inr (0, (-2147483648), 2147483647), .inr (0, (-2147483648), 2147483647)], [], [], [(some (0, (-2147483648), 2147483647), [])])
noncomputable def kl_209 : List jA := [((238, 30), [(3, (-2), 360), (4, (-2147483648), 2147483647), (5, (-1), 29)], [], [], [], false, 2)]
noncomputable def ks_209 : List ((Nat × Nat) × Nat) := [((215, 22), 99), ((257, 0), 1), ((258, 0), 1), ((259, 0), 1), ((260, 0), 1)]
/-- X.sight -/
noncomputable def kc_210 : jC := (152, 1, [.inl (.ref 0), .inr (0, (-2147483648), 2147483647), .inr (0, (-2147483648), 2147483647)], [], [(1, 5), (4, 9999), (5, 9999), (6, 9999)], [(some (0, (-3), 9), [])])
noncomputable def kl_210 : List jA := []
noncomputable def ks_210 : List ((Nat × Nat) × Nat) := [((114, 0), 1), ((115, 0), 1), ((215, 22), 99)]
/-- M.sight -/
noncomputable def kc_211 : jC := (239, 2, [.inl (.ref 66), .inr (0, (-2147483648), 2147483647), .inr (0, (-2147483648), 2147483647)], [], [(66, 34), (89, 9999)], [(some (0, (-3), 9), [])])
noncomputable def kl_211 : List jA := []
noncomputable def ks_211 : List ((Nat × Nat) × Nat) := [((215, 22), 99), ((257, 0), 1), ((258, 0), 1), ((259, 0), 1), ((260, 0), 1)]
/-- X.atLeast -/
noncomputable def kc_212 : jC := (153, 22, [.inl (.ref 0), .inr (0, (-2147483648), 2147483647)], [], [(49, 5), (50, 9999), (51, 9999)], [(some (0, (-2147483648), 2147483647), [])])
noncomputable def kl_212 : List jA := [((83, 2), [(2, 0, 10)], [], [], [], true, 0), ((83, 29), [(3, 0, 10)], [], [(50, 9999)], [], true, 0)]
noncomputable def ks_212 : List ((Nat × Nat) × Nat) := [((114, 0), 1), ((115, 0), 1), ((215, 22), 99)]
/-- M.atLeast -/
noncomputable def kc_213 : jC := (242, 2, [.inl (.ref 66), .inr (0, (-2147483648), 2147483647)], [], [(90, 9999), (91, 9999)], [(some (0, (-2147483648), 2147483647), [])])
noncomputable def kl_213 : List jA := [((242, 16), [(2, 0, 10)], [], [], [], true, 0), ((242, 33), [(3, 0, 10)], [], [(90, 9999)], [], true, 0), ((242, 93), [(2, 1, 1024)], [], [(91, 9999)], [], true, 0), ((242, 113), [(3, 0, 1023)], [], [(91, 9999)], [], false, 0)]
noncomputable def ks_213 : List ((Nat × Nat) × Nat) := [((215, 22), 99), ((257, 0), 1), ((258, 0), 1), ((259, 0), 1), ((260, 0), 1)]
/-- X.who -/
noncomputable def kc_214 : jC := (154, 4, [.inl (.ref 0), .inr (0, (-2147483648), 2147483647)], [], [], [(some (0, (-1), 127), [])])
noncomputable def kl_214 : List jA := []
noncomputable def ks_214 : List ((Nat × Nat) × Nat) := [((114, 0), 1), ((115, 0), 1), ((215, 22), 99)]
/-- M.who -/
noncomputable def kc_215 : jC := (245, 4, [.inl (.ref 66), .inr (0, (-2147483648), 2147483647)], [], [], [(some (0, (-1), 127), [])])
noncomputable def kl_215 : List jA := []
noncomputable def ks_215 : List ((Nat × Nat) × Nat) := [((215, 22), 99), ((257, 0), 1), ((258, 0), 1), ((259, 0), 1), ((260, 0), 1)]
/-- X.gone -/
noncomputable def kc_216 : jC := (155, 6, [.inl (.ref 0), .inr (0, (-2147483648), 2147483647), .inr (0, (-2147483648), 2147483647)], [], [(20, 4), (23, 9999), (24, 9999), (33, 9999)], [(some (0, (-1), 127), [])])
noncomputable def kl_216 : List jA := [((89, 4), [(2, 0, 127), (3, 0, 10)], [], [], [], true, 1), ((90, 11), [(2, 0, 127), (3, 0, 7)], [], [], [], true, 1)]
noncomputable def ks_216 : List ((Nat × Nat) × Nat) := [((114, 0), 1), ((115, 0), 1), ((215, 22), 99)]
/-- M.gone -/
noncomputable def kc_217 : jC := (246, 47, [.inl (.ref 66), .inr (0, (-2147483648), 2147483647), .inr (0, (-2147483648), 2147483647)], [], [(66, 15), (66, 16), (66, 17), (66, 18), (66, 19), (77, 9999), (78, 9999)], [(some (0, (-1), 127), [])])
noncomputable def kl_217 : List jA := [((246, 36), [(3, 0, 127), (4, 0, 10)], [], [], [], true, 1), ((246, 95), [(4, 0, 127), (5, 0, 7)], [], [], [], true, 1)]
noncomputable def ks_217 : List ((Nat × Nat) × Nat) := [((215, 22), 99), ((257, 0), 1), ((258, 0), 1), ((259, 0), 1), ((260, 0), 1)]
/-- X.months -/
noncomputable def kc_218 : jC := (156, 5, [.inl (.ref 0), .inr (0, (-2147483648), 2147483647)], [], [(20, 4), (23, 9999), (24, 9999)], [(some (0, (-2147483648), 2147483647), [])])
noncomputable def kl_218 : List jA := []
noncomputable def ks_218 : List ((Nat × Nat) × Nat) := [((114, 0), 1), ((115, 0), 1), ((215, 22), 99)]
/-- M.months -/
noncomputable def kc_219 : jC := (247, 45, [.inl (.ref 66), .inr (0, (-2147483648), 2147483647)], [], [(66, 15), (66, 16), (66, 17), (66, 18), (66, 19), (77, 9999)], [(some (0, (-2147483648), 2147483647), [])])
noncomputable def kl_219 : List jA := [((247, 32), [(3, (-2147483648), 2147483647), (4, 0, 7)], [], [], [], true, 1), ((247, 44), [(3, (-2147483648), 2147483647), (5, 0, 6)], [], [], [], true, 1)]
noncomputable def ks_219 : List ((Nat × Nat) × Nat) := [((215, 22), 99), ((257, 0), 1), ((258, 0), 1), ((259, 0), 1), ((260, 0), 1)]
/-- X.turn -/
noncomputable def kc_220 : jC := (157, 1, [.inl (.ref 0)], [], [(13, 9), (14, 9999)], [(some (0, 0, 11), [])])
noncomputable def kl_220 : List jA := [((22, 2), [(1, 0, 7)], [], [], [], true, 0)]
noncomputable def ks_220 : List ((Nat × Nat) × Nat) := [((114, 0), 1), ((115, 0), 1), ((215, 22), 99)]
/-- M.turn -/
noncomputable def kc_221 : jC := (248, 0, [.inl (.ref 66)], [], [(67, 9999)], [(some (0, 0, 11), [])])
noncomputable def kl_221 : List jA := [((248, 2), [(1, 0, 7)], [], [], [], true, 0)]
noncomputable def ks_221 : List ((Nat × Nat) × Nat) := [((215, 22), 99), ((257, 0), 1), ((258, 0), 1), ((259, 0), 1), ((260, 0), 1)]
/-- X.image -/
noncomputable def kc_222 : jC := (158, 1, [.inl (.ref 0)], [], [(0, 2), (0, 3), (7, 5), (8, 9999), (9, 9999), (10, 9999), (11, 9999), (12, 9999)], [(some (0, 0, 7), [])])
noncomputable def kl_222 : List jA := []
noncomputable def ks_222 : List ((Nat × Nat) × Nat) := [((114, 0), 1), ((115, 0), 1), ((215, 22), 99)]
/-- M.image -/
noncomputable def kc_223 : jC := (249, 0, [.inl (.ref 66)], [], [(66, 38), (66, 39), (66, 40), (92, 9999), (93, 9999), (94, 9999)], [(some (0, 0, 7), [])])
noncomputable def kl_223 : List jA := [((249, 23), [(1, 0, 7)], [], [], [], true, 0), ((249, 61), [(1, 0, 210)], [], [], [], true, 0), ((249, 88), [(1, 0, 30)], [], [], [], true, 0)]
noncomputable def ks_223 : List ((Nat × Nat) × Nat) := [((215, 22), 99), ((257, 0), 1), ((258, 0), 1), ((259, 0), 1), ((260, 0), 1)]
/-- X.back -/
noncomputable def kc_224 : jC := (159, 1, [.inl (.ref 0)], [], [(1, 5), (2, 9999), (3, 9999), (4, 9999), (5, 9999), (6, 9999)], [(some (0, (-5), 7), [])])
noncomputable def kl_224 : List jA := []
noncomputable def ks_224 : List ((Nat × Nat) × Nat) := [((114, 0), 1), ((115, 0), 1), ((215, 22), 99)]
/-- M.back -/
noncomputable def kc_225 : jC := (250, 0, [.inl (.ref 66)], [], [(66, 34), (71, 9999), (88, 9999), (89, 9999)], [(some (0, (-5), 7), [])])
noncomputable def kl_225 : List jA := [((250, 20), [(1, 0, 7)], [], [], [], true, 0), ((250, 46), [(1, 0, 210)], [], [], [], true, 0), ((250, 73), [(1, 0, 30)], [], [], [], true, 0)]
noncomputable def ks_225 : List ((Nat × Nat) × Nat) := [((215, 22), 99), ((257, 0), 1), ((258, 0), 1), ((259, 0), 1), ((260, 0), 1)]
/-- X.undo -/
noncomputable def kc_226 : jC := (160, 2, [.inl (.ref 0)], [], [(13, 8), (13, 9), (14, 9999), (15, 9999), (16, 9999), (52, 5)], [(some (0, (-5), 39), [])])
noncomputable def kl_226 : List jA := []
noncomputable def ks_226 : List ((Nat × Nat) × Nat) := [((114, 0), 1), ((115, 0), 1), ((215, 22), 99)]
/-- M.undo -/
noncomputable def kc_227 : jC := (179, 0, [.inl (.ref 66)], [], [(66, 5), (67, 9999)], [(some (0, (-5), 39), [])])
noncomputable def kl_227 : List jA := []
noncomputable def ks_227 : List ((Nat × Nat) × Nat) := [((215, 22), 99), ((257, 0), 1), ((258, 0), 1), ((259, 0), 1), ((260, 0), 1)]
/-- X.redo -/
noncomputable def kc_228 : jC := (161, 2, [.inl (.ref 0)], [], [(13, 8), (13, 9), (14, 9999), (15, 9999), (16, 9999), (52, 5)], [(some (0, (-39), 39), [])])
noncomputable def kl_228 : List jA := []
noncomputable def ks_228 : List ((Nat × Nat) × Nat) := [((114, 0), 1), ((115, 0), 1), ((215, 22), 99)]
/-- M.redo -/
noncomputable def kc_229 : jC := (180, 0, [.inl (.ref 66)], [], [(66, 5), (67, 9999)], [(some (0, (-39), 39), [])])
noncomputable def kl_229 : List jA := []
noncomputable def ks_229 : List ((Nat × Nat) × Nat) := [((215, 22), 99), ((257, 0), 1), ((258, 0), 1), ((259, 0), 1), ((260, 0), 1)]
/-- X.body -/
noncomputable def kc_230 : jC := (162, 1, [.inl (.ref 0), .inr (0, (-2147483648), 2147483647)], [], [(57, 1), (58, 9999)], [(some (0, (-3), 49), [])])
noncomputable def kl_230 : List jA := []
noncomputable def ks_230 : List ((Nat × Nat) × Nat) := [((114, 0), 1), ((115, 0), 1), ((215, 22), 99)]
/-- M.body -/
noncomputable def kc_231 : jC := (254, 1, [.inl (.ref 66), .inr (0, (-2147483648), 2147483647)], [], [(66, 44), (95, 9999)], [(some (0, (-3), 49), [])])
noncomputable def kl_231 : List jA := []
noncomputable def ks_231 : List ((Nat × Nat) × Nat) := [((215, 22), 99), ((257, 0), 1), ((258, 0), 1), ((259, 0), 1), ((260, 0), 1)]
/-- X.act -/
noncomputable def kc_232 : jC := (163, 17, [.inl (.ref 0), .inr (0, (-2147483648), 2147483647), .inr (0, (-2147483648), 2147483647), .inr (0, (-2147483648), 2147483647)], [], [(57, 3), (57, 4), (59, 9999)], [(some (0, (-2147483648), 2147483647), [])])
noncomputable def kl_232 : List jA := []
noncomputable def ks_232 : List ((Nat × Nat) × Nat) := [((114, 0), 1), ((115, 0), 1), ((215, 22), 99)]
/-- M.act -/
noncomputable def kc_233 : jC := (261, 7, [.inl (.ref 66), .inr (0, (-2147483648), 2147483647), .inr (0, (-2147483648), 2147483647), .inr (0, (-2147483648), 2147483647)], [], [(66, 47), (66, 48), (66, 49), (96, 9999)], [(some (0, (-2147483648), 2147483647), [])])
noncomputable def kl_233 : List jA := []
noncomputable def ks_233 : List ((Nat × Nat) × Nat) := [((215, 22), 99), ((257, 0), 1), ((258, 0), 1), ((259, 0), 1), ((260, 0), 1)]
/-- X.trace -/
noncomputable def kc_234 : jC := (164, 2, [.inl (.ref 0), .inr (0, (-2147483648), 2147483647)], [], [], [(some (0, (-1), 81), [])])
noncomputable def kl_234 : List jA := []
noncomputable def ks_234 : List ((Nat × Nat) × Nat) := [((114, 0), 1), ((115, 0), 1), ((215, 22), 99)]
/-- M.trace -/
noncomputable def kc_235 : jC := (262, 0, [.inl (.ref 66), .inr (0, (-2147483648), 2147483647)], [], [], [(some (0, (-1), 81), [])])
noncomputable def kl_235 : List jA := []
noncomputable def ks_235 : List ((Nat × Nat) × Nat) := [((215, 22), 99), ((257, 0), 1), ((258, 0), 1), ((259, 0), 1), ((260, 0), 1)]
/-- X.keep -/
noncomputable def kc_236 : jC := (165, 1, [.inl (.ref 0), .inr (0, (-2147483648), 2147483647), .inr (0, (-2147483648), 2147483647)], [], [(61, 9999), (62, 9999)], [(some (0, (-1), 1), [])])
noncomputable def kl_236 : List jA := []
noncomputable def ks_236 : List ((Nat × Nat) × Nat) := [((114, 0), 1), ((115, 0), 1), ((215, 22), 99)]
/-- M.keep -/
noncomputable def kc_237 : jC := (264, 2, [.inl (.ref 66), .inr (0, (-2147483648), 2147483647), .inr (0, (-2147483648), 2147483647)], [], [(97, 9999), (98, 9999)], [(some (0, (-1), 1), [])])
noncomputable def kl_237 : List jA := []
noncomputable def ks_237 : List ((Nat × Nat) × Nat) := [((215, 22), 99), ((257, 0), 1), ((258, 0), 1), ((259, 0), 1), ((260, 0), 1)]
/-- X.row -/
noncomputable def kc_238 : jC := (166, 1, [.inl (.ref 0), .inr (0, (-2147483648), 2147483647), .inr (0, (-2147483648), 2147483647), .inr (0, (-2147483648), 2147483647)], [], [(61, 9999), (63, 9999), (64, 9999), (65, 9999)], [(some (0, (-14), 1), [])])
noncomputable def kl_238 : List jA := [((73, 24), [(4, 0, 60)], [], [], [], true, 0)]
noncomputable def ks_238 : List ((Nat × Nat) × Nat) := [((114, 0), 1), ((115, 0), 1), ((215, 22), 99)]
/-- M.row -/
noncomputable def kc_239 : jC := (265, 2, [.inl (.ref 66), .inr (0, (-2147483648), 2147483647), .inr (0, (-2147483648), 2147483647), .inr (0, (-2147483648), 2147483647)], [], [(97, 9999), (98, 9999), (99, 9999)], [(some (0, (-14), 1), [])])
noncomputable def kl_239 : List jA := [((265, 57), [(4, 0, 360)], [], [], [], true, 0)]
noncomputable def ks_239 : List ((Nat × Nat) × Nat) := [((215, 22), 99), ((257, 0), 1), ((258, 0), 1), ((259, 0), 1), ((260, 0), 1)]
/-- X.put -/
noncomputable def kc_240 : jC := (167, 2, [.inl (.ref 0), .inr (0, (-2147483648), 2147483647), .inr (0, (-2147483648), 2147483647), .inr (1, (-9223372036854775808), 9223372036854775807)], [], [(65, 9999)], [(some (0, (-13), 1), [])])
noncomputable def kl_240 : List jA := []
noncomputable def ks_240 : List ((Nat × Nat) × Nat) := [((114, 0), 1), ((115, 0), 1), ((215, 22), 99)]
/-- M.put -/
noncomputable def kc_241 : jC := (268, 3, [.inl (.ref 66), .inr (0, (-2147483648), 2147483647), .inr (0, (-2147483648), 2147483647), .inr (1, (-9223372036854775808), 9223372036854775807)], [], [(99, 9999)], [(some (0, (-13), 1), [])])
noncomputable def kl_241 : List jA := []
noncomputable def ks_241 : List ((Nat × Nat) × Nat) := [((215, 22), 99), ((257, 0), 1), ((258, 0), 1), ((259, 0), 1), ((260, 0), 1)]
/-- X.element -/
noncomputable def kc_242 : jC := (168, 2, [.inl (.ref 0), .inr (0, (-2147483648), 2147483647), .inr (0, (-2147483648), 2147483647)], [], [], [(some (1, (-9223372036854775808), 9223372036854775807), [])])
noncomputable def kl_242 : List jA := []
noncomputable def ks_242 : List ((Nat × Nat) × Nat) := [((114, 0), 1), ((115, 0), 1), ((215, 22), 99)]
/-- M.element -/
noncomputable def kc_243 : jC := (269, 3, [.inl (.ref 66), .inr (0, (-2147483648), 2147483647), .inr (0, (-2147483648), 2147483647)], [], [], [(some (1, (-9223372036854775808), 9223372036854775807), [])])
noncomputable def kl_243 : List jA := []
noncomputable def ks_243 : List ((Nat × Nat) × Nat) := [((215, 22), 99), ((257, 0), 1), ((258, 0), 1), ((259, 0), 1), ((260, 0), 1)]
/-- X.shift-2147483648 -/
noncomputable def kc_244 : jC := (169, 2, [.inl (.ref 0), .inr (0, (-2147483648), 2147483647), .inr (0, (-2147483648), 2147483647), .inr (0, (-2147483648), 2147483647), .inr (0, (-2147483648), 2147483647), .inr (0, (-2147483648), (-1))], [], [], [(some (0, (-13), (-1)), [])])
noncomputable def kl_244 : List jA := []
noncomputable def ks_244 : List ((Nat × Nat) × Nat) := [((215, 22), 99)]
/-- X.shift0 -/
noncomputable def kc_245 : jC := (169, 2, [.inl (.ref 0), .inr (0, (-2147483648), 2147483647), .inr (0, (-2147483648), 2147483647), .inr (0, (-2147483648), 2147483647), .inr (0, (-2147483648), 2147483647), .inr (0, 0, 0)], [], [(65, 9999)], [(some (0, (-13), 0), [])])
noncomputable def kl_245 : List jA := []
noncomputable def ks_245 : List ((Nat × Nat) × Nat) := [((215, 22), 99)]
/-- X.shift1 -/
noncomputable def kc_246 : jC := (169, 2, [.inl (.ref 0), .inr (0, (-2147483648), 2147483647), .inr (0, (-2147483648), 2147483647), .inr (0, (-2147483648), 2147483647), .inr (0, (-2147483648), 2147483647), .inr (0, 1, 1)], [], [(65, 9999)], [(some (0, (-13), 1), [])])
noncomputable def kl_246 : List jA := []
noncomputable def ks_246 : List ((Nat × Nat) × Nat) := [((215, 22), 99)]
/-- X.shift2 -/
noncomputable def kc_247 : jC := (169, 2, [.inl (.ref 0), .inr (0, (-2147483648), 2147483647), .inr (0, (-2147483648), 2147483647), .inr (0, (-2147483648), 2147483647), .inr (0, (-2147483648), 2147483647), .inr (0, 2, 2)], [], [(65, 9999)], [(some (0, (-13), 2), [])])
noncomputable def kl_247 : List jA := []
noncomputable def ks_247 : List ((Nat × Nat) × Nat) := [((215, 22), 99)]
/-- X.shift3 -/
noncomputable def kc_248 : jC := (169, 2, [.inl (.ref 0), .inr (0, (-2147483648), 2147483647), .inr (0, (-2147483648), 2147483647), .inr (0, (-2147483648), 2147483647), .inr (0, (-2147483648), 2147483647), .inr (0, 3, 3)], [], [(65, 9999)], [(some (0, (-13), 3), [])])
noncomputable def kl_248 : List jA := []
noncomputable def ks_248 : List ((Nat × Nat) × Nat) := [((215, 22), 99)]
/-- X.shift4 -/
noncomputable def kc_249 : jC := (169, 2, [.inl (.ref 0), .inr (0, (-2147483648), 2147483647), .inr (0, (-2147483648), 2147483647), .inr (0, (-2147483648), 2147483647), .inr (0, (-2147483648), 2147483647), .inr (0, 4, 4)], [], [(65, 9999)], [(some (0, (-13), 4), [])])
noncomputable def kl_249 : List jA := []
noncomputable def ks_249 : List ((Nat × Nat) × Nat) := [((215, 22), 99)]
/-- X.shift5 -/
noncomputable def kc_250 : jC := (169, 2, [.inl (.ref 0), .inr (0, (-2147483648), 2147483647), .inr (0, (-2147483648), 2147483647), .inr (0, (-2147483648), 2147483647), .inr (0, (-2147483648), 2147483647), .inr (0, 5, 5)], [], [(65, 9999)], [(some (0, (-13), 5), [])])
noncomputable def kl_250 : List jA := []
noncomputable def ks_250 : List ((Nat × Nat) × Nat) := [((215, 22), 99)]
/-- X.shift6 -/
noncomputable def kc_251 : jC := (169, 2, [.inl (.ref 0), .inr (0, (-2147483648), 2147483647), .inr (0, (-2147483648), 2147483647), .inr (0, (-2147483648), 2147483647), .inr (0, (-2147483648), 2147483647), .inr (0, 6, 6)], [], [(65, 9999)], [(some (0, (-13), 6), [])])
noncomputable def kl_251 : List jA := []
noncomputable def ks_251 : List ((Nat × Nat) × Nat) := [((215, 22), 99)]
/-- X.shift7 -/
noncomputable def kc_252 : jC := (169, 2, [.inl (.ref 0), .inr (0, (-2147483648), 2147483647), .inr (0, (-2147483648), 2147483647), .inr (0, (-2147483648), 2147483647), .inr (0, (-2147483648), 2147483647), .inr (0, 7, 7)], [], [(65, 9999)], [(some (0, (-13), 7), [])])
noncomputable def kl_252 : List jA := []
noncomputable def ks_252 : List ((Nat × Nat) × Nat) := [((215, 22), 99)]
/-- X.shift8 -/
noncomputable def kc_253 : jC := (169, 2, [.inl (.ref 0), .inr (0, (-2147483648), 2147483647), .inr (0, (-2147483648), 2147483647), .inr (0, (-2147483648), 2147483647), .inr (0, (-2147483648), 2147483647), .inr (0, 8, 8)], [], [(65, 9999)], [(some (0, (-13), 8), [])])
noncomputable def kl_253 : List jA := []
noncomputable def ks_253 : List ((Nat × Nat) × Nat) := [((215, 22), 99)]
/-- X.shift9 -/
noncomputable def kc_254 : jC := (169, 2, [.inl (.ref 0), .inr (0, (-2147483648), 2147483647), .inr (0, (-2147483648), 2147483647), .inr (0, (-2147483648), 2147483647), .inr (0, (-2147483648), 2147483647), .inr (0, 9, 9)], [], [(65, 9999)], [(some (0, (-13), 9), [])])
noncomputable def kl_254 : List jA := []
noncomputable def ks_254 : List ((Nat × Nat) × Nat) := [((215, 22), 99)]
/-- X.shift10 -/
noncomputable def kc_255 : jC := (169, 2, [.inl (.ref 0), .inr (0, (-2147483648), 2147483647), .inr (0, (-2147483648), 2147483647), .inr (0, (-2147483648), 2147483647), .inr (0, (-2147483648), 2147483647), .inr (0, 10, 10)], [], [(65, 9999)], [(some (0, (-13), 10), [])])
noncomputable def kl_255 : List jA := []
noncomputable def ks_255 : List ((Nat × Nat) × Nat) := [((215, 22), 99)]
/-- X.shift11 -/
noncomputable def kc_256 : jC := (169, 2, [.inl (.ref 0), .inr (0, (-2147483648), 2147483647), .inr (0, (-2147483648), 2147483647), .inr (0, (-2147483648), 2147483647), .inr (0, (-2147483648), 2147483647), .inr (0, 11, 11)], [], [(65, 9999)], [(some (0, (-13), 11), [])])
noncomputable def kl_256 : List jA := []
noncomputable def ks_256 : List ((Nat × Nat) × Nat) := [((215, 22), 99)]
/-- X.shift12 -/
noncomputable def kc_257 : jC := (169, 2, [.inl (.ref 0), .inr (0, (-2147483648), 2147483647), .inr (0, (-2147483648), 2147483647), .inr (0, (-2147483648), 2147483647), .inr (0, (-2147483648), 2147483647), .inr (0, 12, 12)], [], [(65, 9999)], [(some (0, (-13), 12), [])])
noncomputable def kl_257 : List jA := []
noncomputable def ks_257 : List ((Nat × Nat) × Nat) := [((215, 22), 99)]
/-- X.shift13 -/
noncomputable def kc_258 : jC := (169, 2, [.inl (.ref 0), .inr (0, (-2147483648), 2147483647), .inr (0, (-2147483648), 2147483647), .inr (0, (-2147483648), 2147483647), .inr (0, (-2147483648), 2147483647), .inr (0, 13, 13)], [], [(65, 9999)], [(some (0, (-13), 13), [])])
noncomputable def kl_258 : List jA := []
noncomputable def ks_258 : List ((Nat × Nat) × Nat) := [((215, 22), 99)]
/-- X.shift14 -/
noncomputable def kc_259 : jC := (169, 2, [.inl (.ref 0), .inr (0, (-2147483648), 2147483647), .inr (0, (-2147483648), 2147483647), .inr (0, (-2147483648), 2147483647), .inr (0, (-2147483648), 2147483647), .inr (0, 14, 14)], [], [(65, 9999)], [(some (0, (-13), 14), [])])
noncomputable def kl_259 : List jA := []
noncomputable def ks_259 : List ((Nat × Nat) × Nat) := [((215, 22), 99)]
/-- X.shift15 -/
noncomputable def kc_260 : jC := (169, 2, [.inl (.ref 0), .inr (0, (-2147483648), 2147483647), .inr (0, (-2147483648), 2147483647), .inr (0, (-2147483648), 2147483647), .inr (0, (-2147483648), 2147483647), .inr (0, 15, 15)], [], [(65, 9999)], [(some (0, (-13), 15), [])])
noncomputable def kl_260 : List jA := []
noncomputable def ks_260 : List ((Nat × Nat) × Nat) := [((215, 22), 99)]
/-- X.shift16 -/
noncomputable def kc_261 : jC := (169, 2, [.inl (.ref 0), .inr (0, (-2147483648), 2147483647), .inr (0, (-2147483648), 2147483647), .inr (0, (-2147483648), 2147483647), .inr (0, (-2147483648), 2147483647), .inr (0, 16, 16)], [], [(65, 9999)], [(some (0, (-13), 16), [])])
noncomputable def kl_261 : List jA := []
noncomputable def ks_261 : List ((Nat × Nat) × Nat) := [((215, 22), 99)]
/-- X.shift17 -/
noncomputable def kc_262 : jC := (169, 2, [.inl (.ref 0), .inr (0, (-2147483648), 2147483647), .inr (0, (-2147483648), 2147483647), .inr (0, (-2147483648), 2147483647), .inr (0, (-2147483648), 2147483647), .inr (0, 17, 17)], [], [(65, 9999)], [(some (0, (-13), 17), [])])
noncomputable def kl_262 : List jA := []
noncomputable def ks_262 : List ((Nat × Nat) × Nat) := [((215, 22), 99)]
/-- X.shift18 -/
noncomputable def kc_263 : jC := (169, 2, [.inl (.ref 0), .inr (0, (-2147483648), 2147483647), .inr (0, (-2147483648), 2147483647), .inr (0, (-2147483648), 2147483647), .inr (0, (-2147483648), 2147483647), .inr (0, 18, 18)], [], [(65, 9999)], [(some (0, (-13), 18), [])])
noncomputable def kl_263 : List jA := []
noncomputable def ks_263 : List ((Nat × Nat) × Nat) := [((215, 22), 99)]
/-- X.shift19 -/
noncomputable def kc_264 : jC := (169, 2, [.inl (.ref 0), .inr (0, (-2147483648), 2147483647), .inr (0, (-2147483648), 2147483647), .inr (0, (-2147483648), 2147483647), .inr (0, (-2147483648), 2147483647), .inr (0, 19, 19)], [], [(65, 9999)], [(some (0, (-13), 19), [])])
noncomputable def kl_264 : List jA := []
noncomputable def ks_264 : List ((Nat × Nat) × Nat) := [((215, 22), 99)]
/-- X.shift20 -/
noncomputable def kc_265 : jC := (169, 2, [.inl (.ref 0), .inr (0, (-2147483648), 2147483647), .inr (0, (-2147483648), 2147483647), .inr (0, (-2147483648), 2147483647), .inr (0, (-2147483648), 2147483647), .inr (0, 20, 20)], [], [(65, 9999)], [(some (0, (-13), 20), [])])
noncomputable def kl_265 : List jA := []
noncomputable def ks_265 : List ((Nat × Nat) × Nat) := [((215, 22), 99)]
/-- X.shift21 -/
noncomputable def kc_266 : jC := (169, 2, [.inl (.ref 0), .inr (0, (-2147483648), 2147483647), .inr (0, (-2147483648), 2147483647), .inr (0, (-2147483648), 2147483647), .inr (0, (-2147483648), 2147483647), .inr (0, 21, 21)], [], [(65, 9999)], [(some (0, (-13), 21), [])])
noncomputable def kl_266 : List jA := []
noncomputable def ks_266 : List ((Nat × Nat) × Nat) := [((215, 22), 99)]
/-- X.shift22 -/
noncomputable def kc_267 : jC := (169, 2, [.inl (.ref 0), .inr (0, (-2147483648), 2147483647), .inr (0, (-2147483648), 2147483647), .inr (0, (-2147483648), 2147483647), .inr (0, (-2147483648), 2147483647), .inr (0, 22, 22)], [], [(65, 9999)], [(some (0, (-13), 22), [])])
noncomputable def kl_267 : List jA := []
noncomputable def ks_267 : List ((Nat × Nat) × Nat) := [((215, 22), 99)]
/-- X.shift23 -/
noncomputable def kc_268 : jC := (169, 2, [.inl (.ref 0), .inr (0, (-2147483648), 2147483647), .inr (0, (-2147483648), 2147483647), .inr (0, (-2147483648), 2147483647), .inr (0, (-2147483648), 2147483647), .inr (0, 23, 23)], [], [(65, 9999)], [(some (0, (-13), 23), [])])
noncomputable def kl_268 : List jA := []
noncomputable def ks_268 : List ((Nat × Nat) × Nat) := [((215, 22), 99)]
/-- X.shift24 -/
noncomputable def kc_269 : jC := (169, 2, [.inl (.ref 0), .inr (0, (-2147483648), 2147483647), .inr (0, (-2147483648), 2147483647), .inr (0, (-2147483648), 2147483647), .inr (0, (-2147483648), 2147483647), .inr (0, 24, 24)], [], [(65, 9999)], [(some (0, (-13), 24), [])])
noncomputable def kl_269 : List jA := []
noncomputable def ks_269 : List ((Nat × Nat) × Nat) := [((215, 22), 99)]
/-- X.shift25 -/
noncomputable def kc_270 : jC := (169, 2, [.inl (.ref 0), .inr (0, (-2147483648), 2147483647), .inr (0, (-2147483648), 2147483647), .inr (0, (-2147483648), 2147483647), .inr (0, (-2147483648), 2147483647), .inr (0, 25, 25)], [], [(65, 9999)], [(some (0, (-13), 25), [])])
noncomputable def kl_270 : List jA := []
noncomputable def ks_270 : List ((Nat × Nat) × Nat) := [((215, 22), 99)]
/-- X.shift26 -/
noncomputable def kc_271 : jC := (169, 2, [.inl (.ref 0), .inr (0, (-2147483648), 2147483647), .inr (0, (-2147483648), 2147483647), .inr (0, (-2147483648), 2147483647), .inr (0, (-2147483648), 2147483647), .inr (0, 26, 26)], [], [(65, 9999)], [(some (0, (-13), 26), [])])
noncomputable def kl_271 : List jA := []
noncomputable def ks_271 : List ((Nat × Nat) × Nat) := [((215, 22), 99)]
/-- X.shift27 -/
noncomputable def kc_272 : jC := (169, 2, [.inl (.ref 0), .inr (0, (-2147483648), 2147483647), .inr (0, (-2147483648), 2147483647), .inr (0, (-2147483648), 2147483647), .inr (0, (-2147483648), 2147483647), .inr (0, 27, 27)], [], [(65, 9999)], [(some (0, (-13), 27), [])])
noncomputable def kl_272 : List jA := []
noncomputable def ks_272 : List ((Nat × Nat) × Nat) := [((215, 22), 99)]
/-- X.shift28 -/
noncomputable def kc_273 : jC := (169, 2, [.inl (.ref 0), .inr (0, (-2147483648), 2147483647), .inr (0, (-2147483648), 2147483647), .inr (0, (-2147483648), 2147483647), .inr (0, (-2147483648), 2147483647), .inr (0, 28, 28)], [], [(65, 9999)], [(some (0, (-13), 28), [])])
noncomputable def kl_273 : List jA := []
noncomputable def ks_273 : List ((Nat × Nat) × Nat) := [((215, 22), 99)]
/-- X.shift29 -/
noncomputable def kc_274 : jC := (169, 2, [.inl (.ref 0), .inr (0, (-2147483648), 2147483647), .inr (0, (-2147483648), 2147483647), .inr (0, (-2147483648), 2147483647), .inr (0, (-2147483648), 2147483647), .inr (0, 29, 29)], [], [(65, 9999)], [(some (0, (-13), 29), [])])
noncomputable def kl_274 : List jA := []
noncomputable def ks_274 : List ((Nat × Nat) × Nat) := [((215, 22), 99)]
/-- X.shift30 -/
noncomputable def kc_275 : jC := (169, 2, [.inl (.ref 0), .inr (0, (-2147483648), 2147483647), .inr (0, (-2147483648), 2147483647), .inr (0, (-2147483648), 2147483647), .inr (0, (-2147483648), 2147483647), .inr (0, 30, 30)], [], [(65, 9999)], [(some (0, (-13), 30), [])])
noncomputable def kl_275 : List jA := []
noncomputable def ks_275 : List ((Nat × Nat) × Nat) := [((215, 22), 99)]
/-- X.shift31 -/
noncomputable def kc_276 : jC := (169, 2, [.inl (.ref 0), .inr (0, (-2147483648), 2147483647), .inr (0, (-2147483648), 2147483647), .inr (0, (-2147483648), 2147483647), .inr (0, (-2147483648), 2147483647), .inr (0, 31, 31)], [], [(65, 9999)], [(some (0, (-13), 31), [])])
noncomputable def kl_276 : List jA := []
noncomputable def ks_276 : List ((Nat × Nat) × Nat) := [((215, 22), 99)]
/-- X.shift32 -/
noncomputable def kc_277 : jC := (169, 2, [.inl (.ref 0), .inr (0, (-2147483648), 2147483647), .inr (0, (-2147483648), 2147483647), .inr (0, (-2147483648), 2147483647), .inr (0, (-2147483648), 2147483647), .inr (0, 32, 32)], [], [(65, 9999)], [(some (0, (-13), 32), [])])
noncomputable def kl_277 : List jA := []
noncomputable def ks_277 : List ((Nat × Nat) × Nat) := [((215, 22), 99)]
/-- X.shift33 -/
noncomputable def kc_278 : jC := (169, 2, [.inl (.ref 0), .inr (0, (-2147483648), 2147483647), .inr (0, (-2147483648), 2147483647), .inr (0, (-2147483648), 2147483647), .inr (0, (-2147483648), 2147483647), .inr (0, 33, 33)], [], [(65, 9999)], [(some (0, (-13), 33), [])])
noncomputable def kl_278 : List jA := []
noncomputable def ks_278 : List ((Nat × Nat) × Nat) := [((215, 22), 99)]
/-- X.shift34 -/
noncomputable def kc_279 : jC := (169, 2, [.inl (.ref 0), .inr (0, (-2147483648), 2147483647), .inr (0, (-2147483648), 2147483647), .inr (0, (-2147483648), 2147483647), .inr (0, (-2147483648), 2147483647), .inr (0, 34, 34)], [], [(65, 9999)], [(some (0, (-13), 34), [])])
noncomputable def kl_279 : List jA := []
noncomputable def ks_279 : List ((Nat × Nat) × Nat) := [((215, 22), 99)]
/-- X.shift35 -/
noncomputable def kc_280 : jC := (169, 2, [.inl (.ref 0), .inr (0, (-2147483648), 2147483647), .inr (0, (-2147483648), 2147483647), .inr (0, (-2147483648), 2147483647), .inr (0, (-2147483648), 2147483647), .inr (0, 35, 35)], [], [(65, 9999)], [(some (0, (-13), 35), [])])
noncomputable def kl_280 : List jA := []
noncomputable def ks_280 : List ((Nat × Nat) × Nat) := [((215, 22), 99)]
/-- X.shift36 -/
noncomputable def kc_281 : jC := (169, 2, [.inl (.ref 0), .inr (0, (-2147483648), 2147483647), .inr (0, (-2147483648), 2147483647), .inr (0, (-2147483648), 2147483647), .inr (0, (-2147483648), 2147483647), .inr (0, 36, 36)], [], [(65, 9999)], [(some (0, (-13), 36), [])])
noncomputable def kl_281 : List jA := []
noncomputable def ks_281 : List ((Nat × Nat) × Nat) := [((215, 22), 99)]
/-- X.shift37 -/
noncomputable def kc_282 : jC := (169, 2, [.inl (.ref 0), .inr (0, (-2147483648), 2147483647), .inr (0, (-2147483648), 2147483647), .inr (0, (-2147483648), 2147483647), .inr (0, (-2147483648), 2147483647), .inr (0, 37, 37)], [], [(65, 9999)], [(some (0, (-13), 37), [])])
noncomputable def kl_282 : List jA := []
noncomputable def ks_282 : List ((Nat × Nat) × Nat) := [((215, 22), 99)]
/-- X.shift38 -/
noncomputable def kc_283 : jC := (169, 2, [.inl (.ref 0), .inr (0, (-2147483648), 2147483647), .inr (0, (-2147483648), 2147483647), .inr (0, (-2147483648), 2147483647), .inr (0, (-2147483648), 2147483647), .inr (0, 38, 38)], [], [(65, 9999)], [(some (0, (-13), 38), [])])
noncomputable def kl_283 : List jA := []
noncomputable def ks_283 : List ((Nat × Nat) × Nat) := [((215, 22), 99)]
/-- X.shift39 -/
noncomputable def kc_284 : jC := (169, 2, [.inl (.ref 0), .inr (0, (-2147483648), 2147483647), .inr (0, (-2147483648), 2147483647), .inr (0, (-2147483648), 2147483647), .inr (0, (-2147483648), 2147483647), .inr (0, 39, 39)], [], [(65, 9999)], [(some (0, (-13), 39), [])])
noncomputable def kl_284 : List jA := []
noncomputable def ks_284 : List ((Nat × Nat) × Nat) := [((215, 22), 99)]
/-- X.shift40 -/
noncomputable def kc_285 : jC := (169, 2, [.inl (.ref 0), .inr (0, (-2147483648), 2147483647), .inr (0, (-2147483648), 2147483647), .inr (0, (-2147483648), 2147483647), .inr (0, (-2147483648), 2147483647), .inr (0, 40, 40)], [], [(65, 9999)], [(some (0, (-13), 40), [])])
noncomputable def kl_285 : List jA := []
noncomputable def ks_285 : List ((Nat × Nat) × Nat) := [((215, 22), 99)]
/-- X.shift41 -/
noncomputable def kc_286 : jC := (169, 2, [.inl (.ref 0), .inr (0, (-2147483648), 2147483647), .inr (0, (-2147483648), 2147483647), .inr (0, (-2147483648), 2147483647), .inr (0, (-2147483648), 2147483647), .inr (0, 41, 41)], [], [(65, 9999)], [(some (0, (-13), 41), [])])
noncomputable def kl_286 : List jA := []
noncomputable def ks_286 : List ((Nat × Nat) × Nat) := [((215, 22), 99)]
/-- X.shift42 -/
noncomputable def kc_287 : jC := (169, 2, [.inl (.ref 0), .inr (0, (-2147483648), 2147483647), .inr (0, (-2147483648), 2147483647), .inr (0, (-2147483648), 2147483647), .inr (0, (-2147483648), 2147483647), .inr (0, 42, 42)], [], [(65, 9999)], [(some (0, (-13), 42), [])])
noncomputable def kl_287 : List jA := []
noncomputable def ks_287 : List ((Nat × Nat) × Nat) := [((215, 22), 99)]
/-- X.shift43 -/
noncomputable def kc_288 : jC := (169, 2, [.inl (.ref 0), .inr (0, (-2147483648), 2147483647), .inr (0, (-2147483648), 2147483647), .inr (0, (-2147483648), 2147483647), .inr (0, (-2147483648), 2147483647), .inr (0, 43, 43)], [], [(65, 9999)], [(some (0, (-13), 43), [])])
noncomputable def kl_288 : List jA := []
noncomputable def ks_288 : List ((Nat × Nat) × Nat) := [((215, 22), 99)]
/-- X.shift44 -/
noncomputable def kc_289 : jC := (169, 2, [.inl (.ref 0), .inr (0, (-2147483648), 2147483647), .inr (0, (-2147483648), 2147483647), .inr (0, (-2147483648), 2147483647), .inr (0, (-2147483648), 2147483647), .inr (0, 44, 44)], [], [(65, 9999)], [(some (0, (-13), 44), [])])
noncomputable def kl_289 : List jA := []
noncomputable def ks_289 : List ((Nat × Nat) × Nat) := [((215, 22), 99)]
/-- X.shift45 -/
noncomputable def kc_290 : jC := (169, 2, [.inl (.ref 0), .inr (0, (-2147483648), 2147483647), .inr (0, (-2147483648), 2147483647), .inr (0, (-2147483648), 2147483647), .inr (0, (-2147483648), 2147483647), .inr (0, 45, 45)], [], [(65, 9999)], [(some (0, (-13), 45), [])])
noncomputable def kl_290 : List jA := []
noncomputable def ks_290 : List ((Nat × Nat) × Nat) := [((215, 22), 99)]
/-- X.shift46 -/
noncomputable def kc_291 : jC := (169, 2, [.inl (.ref 0), .inr (0, (-2147483648), 2147483647), .inr (0, (-2147483648), 2147483647), .inr (0, (-2147483648), 2147483647), .inr (0, (-2147483648), 2147483647), .inr (0, 46, 46)], [], [(65, 9999)], [(some (0, (-13), 46), [])])
noncomputable def kl_291 : List jA := []
noncomputable def ks_291 : List ((Nat × Nat) × Nat) := [((215, 22), 99)]
/-- X.shift47 -/
noncomputable def kc_292 : jC := (169, 2, [.inl (.ref 0), .inr (0, (-2147483648), 2147483647), .inr (0, (-2147483648), 2147483647), .inr (0, (-2147483648), 2147483647), .inr (0, (-2147483648), 2147483647), .inr (0, 47, 47)], [], [(65, 9999)], [(some (0, (-13), 47), [])])
noncomputable def kl_292 : List jA := []
noncomputable def ks_292 : List ((Nat × Nat) × Nat) := [((215, 22), 99)]
/-- X.shift48 -/
noncomputable def kc_293 : jC := (169, 2, [.inl (.ref 0), .inr (0, (-2147483648), 2147483647), .inr (0, (-2147483648), 2147483647), .inr (0, (-2147483648), 2147483647), .inr (0, (-2147483648), 2147483647), .inr (0, 48, 48)], [], [(65, 9999)], [(some (0, (-13), 48), [])])
noncomputable def kl_293 : List jA := []
noncomputable def ks_293 : List ((Nat × Nat) × Nat) := [((215, 22), 99)]
/-- X.shift49 -/
noncomputable def kc_294 : jC := (169, 2, [.inl (.ref 0), .inr (0, (-2147483648), 2147483647), .inr (0, (-2147483648), 2147483647), .inr (0, (-2147483648), 2147483647), .inr (0, (-2147483648), 2147483647), .inr (0, 49, 49)], [], [(65, 9999)], [(some (0, (-13), 49), [])])
noncomputable def kl_294 : List jA := []
noncomputable def ks_294 : List ((Nat × Nat) × Nat) := [((215, 22), 99)]
/-- X.shift50 -/
noncomputable def kc_295 : jC := (169, 2, [.inl (.ref 0), .inr (0, (-2147483648), 2147483647), .inr (0, (-2147483648), 2147483647), .inr (0, (-2147483648), 2147483647), .inr (0, (-2147483648), 2147483647), .inr (0, 50, 50)], [], [(65, 9999)], [(some (0, (-13), 50), [])])
noncomputable def kl_295 : List jA := []
noncomputable def ks_295 : List ((Nat × Nat) × Nat) := [((215, 22), 99)]
/-- X.shift51 -/
noncomputable def kc_296 : jC := (169, 2, [.inl (.ref 0), .inr (0, (-2147483648), 2147483647), .inr (0, (-2147483648), 2147483647), .inr (0, (-2147483648), 2147483647), .inr (0, (-2147483648), 2147483647), .inr (0, 51, 51)], [], [(65, 9999)], [(some (0, (-13), 51), [])])
noncomputable def kl_296 : List jA := []
noncomputable def ks_296 : List ((Nat × Nat) × Nat) := [((215, 22), 99)]
/-- X.shift52 -/
noncomputable def kc_297 : jC := (169, 2, [.inl (.ref 0), .inr (0, (-2147483648), 2147483647), .inr (0, (-2147483648), 2147483647), .inr (0, (-2147483648), 2147483647), .inr (0, (-2147483648), 2147483647), .inr (0, 52, 52)], [], [(65, 9999)], [(some (0, (-13), 52), [])])
noncomputable def kl_297 : List jA := []
noncomputable def ks_297 : List ((Nat × Nat) × Nat) := [((215, 22), 99)]
/-- X.shift53 -/
noncomputable def kc_298 : jC := (169, 2, [.inl (.ref 0), .inr (0, (-2147483648), 2147483647), .inr (0, (-2147483648), 2147483647), .inr (0, (-2147483648), 2147483647), .inr (0, (-2147483648), 2147483647), .inr (0, 53, 53)], [], [(65, 9999)], [(some (0, (-13), 53), [])])
noncomputable def kl_298 : List jA := []
noncomputable def ks_298 : List ((Nat × Nat) × Nat) := [((215, 22), 99)]
/-- X.shift54 -/
noncomputable def kc_299 : jC := (169, 2, [.inl (.ref 0), .inr (0, (-2147483648), 2147483647), .inr (0, (-2147483648), 2147483647), .inr (0, (-2147483648), 2147483647), .inr (0, (-2147483648), 2147483647), .inr (0, 54, 54)], [], [(65, 9999)], [(some (0, (-13), 54), [])])
noncomputable def kl_299 : List jA := []
noncomputable def ks_299 : List ((Nat × Nat) × Nat) := [((215, 22), 99)]
/-- X.shift55 -/
noncomputable def kc_300 : jC := (169, 2, [.inl (.ref 0), .inr (0, (-2147483648), 2147483647), .inr (0, (-2147483648), 2147483647), .inr (0, (-2147483648), 2147483647), .inr (0, (-2147483648), 2147483647), .inr (0, 55, 55)], [], [(65, 9999)], [(some (0, (-13), 55), [])])
noncomputable def kl_300 : List jA := []
noncomputable def ks_300 : List ((Nat × Nat) × Nat) := [((215, 22), 99)]
/-- X.shift56 -/
noncomputable def kc_301 : jC := (169, 2, [.inl (.ref 0), .inr (0, (-2147483648), 2147483647), .inr (0, (-2147483648), 2147483647), .inr (0, (-2147483648), 2147483647), .inr (0, (-2147483648), 2147483647), .inr (0, 56, 56)], [], [(65, 9999)], [(some (0, (-13), 56), [])])
noncomputable def kl_301 : List jA := []
noncomputable def ks_301 : List ((Nat × Nat) × Nat) := [((215, 22), 99)]
/-- X.shift57 -/
noncomputable def kc_302 : jC := (169, 2, [.inl (.ref 0), .inr (0, (-2147483648), 2147483647), .inr (0, (-2147483648), 2147483647), .inr (0, (-2147483648), 2147483647), .inr (0, (-2147483648), 2147483647), .inr (0, 57, 57)], [], [(65, 9999)], [(some (0, (-13), 57), [])])
noncomputable def kl_302 : List jA := []
noncomputable def ks_302 : List ((Nat × Nat) × Nat) := [((215, 22), 99)]
/-- X.shift58 -/
noncomputable def kc_303 : jC := (169, 2, [.inl (.ref 0), .inr (0, (-2147483648), 2147483647), .inr (0, (-2147483648), 2147483647), .inr (0, (-2147483648), 2147483647), .inr (0, (-2147483648), 2147483647), .inr (0, 58, 58)], [], [(65, 9999)], [(some (0, (-13), 58), [])])
noncomputable def kl_303 : List jA := []
noncomputable def ks_303 : List ((Nat × Nat) × Nat) := [((215, 22), 99)]
/-- X.shift59 -/
noncomputable def kc_304 : jC := (169, 2, [.inl (.ref 0), .inr (0, (-2147483648), 2147483647), .inr (0, (-2147483648), 2147483647), .inr (0, (-2147483648), 2147483647), .inr (0, (-2147483648), 2147483647), .inr (0, 59, 59)], [], [(65, 9999)], [(some (0, (-13), 59), [])])
noncomputable def kl_304 : List jA := []
noncomputable def ks_304 : List ((Nat × Nat) × Nat) := [((215, 22), 99)]
/-- X.shift60 -/
noncomputable def kc_305 : jC := (169, 2, [.inl (.ref 0), .inr (0, (-2147483648), 2147483647), .inr (0, (-2147483648), 2147483647), .inr (0, (-2147483648), 2147483647), .inr (0, (-2147483648), 2147483647), .inr (0, 60, 60)], [], [(65, 9999)], [(some (0, (-13), 60), [])])
noncomputable def kl_305 : List jA := []
noncomputable def ks_305 : List ((Nat × Nat) × Nat) := [((215, 22), 99)]
/-- X.shift61 -/
noncomputable def kc_306 : jC := (169, 2, [.inl (.ref 0), .inr (0, (-2147483648), 2147483647), .inr (0, (-2147483648), 2147483647), .inr (0, (-2147483648), 2147483647), .inr (0, (-2147483648), 2147483647), .inr (0, 61, 2147483647)], [], [], [(some (0, (-13), (-1)), [])])
noncomputable def kl_306 : List jA := []
noncomputable def ks_306 : List ((Nat × Nat) × Nat) := [((215, 22), 99)]
/-- M.shift-2147483648 -/
noncomputable def kc_307 : jC := (270, 2, [.inl (.ref 66), .inr (0, (-2147483648), 2147483647), .inr (0, (-2147483648), 2147483647), .inr (0, (-2147483648), 2147483647), .inr (0, (-2147483648), 2147483647), .inr (0, (-2147483648), (-1))], [], [], [(some (0, (-13), (-1)), [])])
noncomputable def kl_307 : List jA := []
noncomputable def ks_307 : List ((Nat × Nat) × Nat) := [((215, 22), 99)]
/-- M.shift0 -/
noncomputable def kc_308 : jC := (270, 2, [.inl (.ref 66), .inr (0, (-2147483648), 2147483647), .inr (0, (-2147483648), 2147483647), .inr (0, (-2147483648), 2147483647), .inr (0, (-2147483648), 2147483647), .inr (0, 0, 0)], [], [], [(some (0, (-13), 0), [])])
noncomputable def kl_308 : List jA := []
noncomputable def ks_308 : List ((Nat × Nat) × Nat) := [((215, 22), 99)]
/-- M.shift1 -/
noncomputable def kc_309 : jC := (270, 2, [.inl (.ref 66), .inr (0, (-2147483648), 2147483647), .inr (0, (-2147483648), 2147483647), .inr (0, (-2147483648), 2147483647), .inr (0, (-2147483648), 2147483647), .inr (0, 1, 1)], [], [(99, 9999), (100, 9999)], [(some (0, (-13), 1), [])])
noncomputable def kl_309 : List jA := [((270, 113), [(6, 0, 1)], [], [], [], true, 0), ((270, 150), [(6, 0, 1)], [], [], [], true, 0)]
noncomputable def ks_309 : List ((Nat × Nat) × Nat) := [((215, 22), 99)]
/-- M.shift2 -/
noncomputable def kc_310 : jC := (270, 2, [.inl (.ref 66), .inr (0, (-2147483648), 2147483647), .inr (0, (-2147483648), 2147483647), .inr (0, (-2147483648), 2147483647), .inr (0, (-2147483648), 2147483647), .inr (0, 2, 2)], [], [(99, 9999), (100, 9999)], [(some (0, (-13), 2), [])])
noncomputable def kl_310 : List jA := [((270, 113), [(6, 0, 2)], [], [], [], true, 0), ((270, 150), [(6, 0, 2)], [], [], [], true, 0)]
noncomputable def ks_310 : List ((Nat × Nat) × Nat) := [((215, 22), 99)]
/-- M.shift3 -/
noncomputable def kc_311 : jC := (270, 2, [.inl (.ref 66), .inr (0, (-2147483648), 2147483647), .inr (0, (-2147483648), 2147483647), .inr (0, (-2147483648), 2147483647), .inr (0, (-2147483648), 2147483647), .inr (0, 3, 3)], [], [(99, 9999), (100, 9999)], [(some (0, (-13), 3), [])])
noncomputable def kl_311 : List jA := [((270, 113), [(6, 0, 3)], [], [], [], true, 0), ((270, 150), [(6, 0, 3)], [], [], [], true, 0)]
noncomputable def ks_311 : List ((Nat × Nat) × Nat) := [((215, 22), 99)]
/-- M.shift4 -/
noncomputable def kc_312 : jC := (270, 2, [.inl (.ref 66), .inr (0, (-2147483648), 2147483647), .inr (0, (-2147483648), 2147483647), .inr (0, (-2147483648), 2147483647), .inr (0, (-2147483648), 2147483647), .inr (0, 4, 4)], [], [(99, 9999), (100, 9999)], [(some (0, (-13), 4), [])])
noncomputable def kl_312 : List jA := [((270, 113), [(6, 0, 4)], [], [], [], true, 0), ((270, 150), [(6, 0, 4)], [], [], [], true, 0)]
noncomputable def ks_312 : List ((Nat × Nat) × Nat) := [((215, 22), 99)]
/-- M.shift5 -/
noncomputable def kc_313 : jC := (270, 2, [.inl (.ref 66), .inr (0, (-2147483648), 2147483647), .inr (0, (-2147483648), 2147483647), .inr (0, (-2147483648), 2147483647), .inr (0, (-2147483648), 2147483647), .inr (0, 5, 5)], [], [(99, 9999), (100, 9999)], [(some (0, (-13), 5), [])])
noncomputable def kl_313 : List jA := [((270, 113), [(6, 0, 5)], [], [], [], true, 0), ((270, 150), [(6, 0, 5)], [], [], [], true, 0)]
noncomputable def ks_313 : List ((Nat × Nat) × Nat) := [((215, 22), 99)]
/-- M.shift6 -/
noncomputable def kc_314 : jC := (270, 2, [.inl (.ref 66), .inr (0, (-2147483648), 2147483647), .inr (0, (-2147483648), 2147483647), .inr (0, (-2147483648), 2147483647), .inr (0, (-2147483648), 2147483647), .inr (0, 6, 6)], [], [(99, 9999), (100, 9999)], [(some (0, (-13), 6), [])])
noncomputable def kl_314 : List jA := [((270, 113), [(6, 0, 6)], [], [], [], true, 0), ((270, 150), [(6, 0, 6)], [], [], [], true, 0)]
noncomputable def ks_314 : List ((Nat × Nat) × Nat) := [((215, 22), 99)]
/-- M.shift7 -/
noncomputable def kc_315 : jC := (270, 2, [.inl (.ref 66), .inr (0, (-2147483648), 2147483647), .inr (0, (-2147483648), 2147483647), .inr (0, (-2147483648), 2147483647), .inr (0, (-2147483648), 2147483647), .inr (0, 7, 7)], [], [(99, 9999), (100, 9999)], [(some (0, (-13), 7), [])])
noncomputable def kl_315 : List jA := [((270, 113), [(6, 0, 7)], [], [], [], true, 0), ((270, 150), [(6, 0, 7)], [], [], [], true, 0)]
noncomputable def ks_315 : List ((Nat × Nat) × Nat) := [((215, 22), 99)]
/-- M.shift8 -/
noncomputable def kc_316 : jC := (270, 2, [.inl (.ref 66), .inr (0, (-2147483648), 2147483647), .inr (0, (-2147483648), 2147483647), .inr (0, (-2147483648), 2147483647), .inr (0, (-2147483648), 2147483647), .inr (0, 8, 8)], [], [(99, 9999), (100, 9999)], [(some (0, (-13), 8), [])])
noncomputable def kl_316 : List jA := [((270, 113), [(6, 0, 8)], [], [], [], true, 0), ((270, 150), [(6, 0, 8)], [], [], [], true, 0)]
noncomputable def ks_316 : List ((Nat × Nat) × Nat) := [((215, 22), 99)]
/-- M.shift9 -/
noncomputable def kc_317 : jC := (270, 2, [.inl (.ref 66), .inr (0, (-2147483648), 2147483647), .inr (0, (-2147483648), 2147483647), .inr (0, (-2147483648), 2147483647), .inr (0, (-2147483648), 2147483647), .inr (0, 9, 9)], [], [(99, 9999), (100, 9999)], [(some (0, (-13), 9), [])])
noncomputable def kl_317 : List jA := [((270, 113), [(6, 0, 9)], [], [], [], true, 0), ((270, 150), [(6, 0, 9)], [], [], [], true, 0)]
noncomputable def ks_317 : List ((Nat × Nat) × Nat) := [((215, 22), 99)]
/-- M.shift10 -/
noncomputable def kc_318 : jC := (270, 2, [.inl (.ref 66), .inr (0, (-2147483648), 2147483647), .inr (0, (-2147483648), 2147483647), .inr (0, (-2147483648), 2147483647), .inr (0, (-2147483648), 2147483647), .inr (0, 10, 10)], [], [(99, 9999), (100, 9999)], [(some (0, (-13), 10), [])])
noncomputable def kl_318 : List jA := [((270, 113), [(6, 0, 10)], [], [], [], true, 0), ((270, 150), [(6, 0, 10)], [], [], [], true, 0)]
noncomputable def ks_318 : List ((Nat × Nat) × Nat) := [((215, 22), 99)]
/-- M.shift11 -/
noncomputable def kc_319 : jC := (270, 2, [.inl (.ref 66), .inr (0, (-2147483648), 2147483647), .inr (0, (-2147483648), 2147483647), .inr (0, (-2147483648), 2147483647), .inr (0, (-2147483648), 2147483647), .inr (0, 11, 11)], [], [(99, 9999), (100, 9999)], [(some (0, (-13), 11), [])])
noncomputable def kl_319 : List jA := [((270, 113), [(6, 0, 11)], [], [], [], true, 0), ((270, 150), [(6, 0, 11)], [], [], [], true, 0)]
noncomputable def ks_319 : List ((Nat × Nat) × Nat) := [((215, 22), 99)]
/-- M.shift12 -/
noncomputable def kc_320 : jC := (270, 2, [.inl (.ref 66), .inr (0, (-2147483648), 2147483647), .inr (0, (-2147483648), 2147483647), .inr (0, (-2147483648), 2147483647), .inr (0, (-2147483648), 2147483647), .inr (0, 12, 12)], [], [(99, 9999), (100, 9999)], [(some (0, (-13), 12), [])])
noncomputable def kl_320 : List jA := [((270, 113), [(6, 0, 12)], [], [], [], true, 0), ((270, 150), [(6, 0, 12)], [], [], [], true, 0)]
noncomputable def ks_320 : List ((Nat × Nat) × Nat) := [((215, 22), 99)]
/-- M.shift13 -/
noncomputable def kc_321 : jC := (270, 2, [.inl (.ref 66), .inr (0, (-2147483648), 2147483647), .inr (0, (-2147483648), 2147483647), .inr (0, (-2147483648), 2147483647), .inr (0, (-2147483648), 2147483647), .inr (0, 13, 13)], [], [(99, 9999), (100, 9999)], [(some (0, (-13), 13), [])])
noncomputable def kl_321 : List jA := [((270, 113), [(6, 0, 13)], [], [], [], true, 0), ((270, 150), [(6, 0, 13)], [], [], [], true, 0)]
noncomputable def ks_321 : List ((Nat × Nat) × Nat) := [((215, 22), 99)]
/-- M.shift14 -/
noncomputable def kc_322 : jC := (270, 2, [.inl (.ref 66), .inr (0, (-2147483648), 2147483647), .inr (0, (-2147483648), 2147483647), .inr (0, (-2147483648), 2147483647), .inr (0, (-2147483648), 2147483647), .inr (0, 14, 14)], [], [(99, 9999), (100, 9999)], [(some (0, (-13), 14), [])])
noncomputable def kl_322 : List jA := [((270, 113), [(6, 0, 19)], [], [], [], true, 0), ((270, 150), [(6, 0, 19)], [], [], [], true, 0)]
noncomputable def ks_322 : List ((Nat × Nat) × Nat) := [((215, 22), 99)]
/-- M.shift15 -/
noncomputable def kc_323 : jC := (270, 2, [.inl (.ref 66), .inr (0, (-2147483648), 2147483647), .inr (0, (-2147483648), 2147483647), .inr (0, (-2147483648), 2147483647), .inr (0, (-2147483648), 2147483647), .inr (0, 15, 15)], [], [(99, 9999), (100, 9999)], [(some (0, (-13), 15), [])])
noncomputable def kl_323 : List jA := [((270, 113), [(6, 0, 19)], [], [], [], true, 0), ((270, 150), [(6, 0, 19)], [], [], [], true, 0)]
noncomputable def ks_323 : List ((Nat × Nat) × Nat) := [((215, 22), 99)]
/-- M.shift16 -/
noncomputable def kc_324 : jC := (270, 2, [.inl (.ref 66), .inr (0, (-2147483648), 2147483647), .inr (0, (-2147483648), 2147483647), .inr (0, (-2147483648), 2147483647), .inr (0, (-2147483648), 2147483647), .inr (0, 16, 16)], [], [(99, 9999), (100, 9999)], [(some (0, (-13), 16), [])])
noncomputable def kl_324 : List jA := [((270, 113), [(6, 0, 19)], [], [], [], true, 0), ((270, 150), [(6, 0, 19)], [], [], [], true, 0)]
noncomputable def ks_324 : List ((Nat × Nat) × Nat) := [((215, 22), 99)]
/-- M.shift17 -/
noncomputable def kc_325 : jC := (270, 2, [.inl (.ref 66), .inr (0, (-2147483648), 2147483647), .inr (0, (-2147483648), 2147483647), .inr (0, (-2147483648), 2147483647), .inr (0, (-2147483648), 2147483647), .inr (0, 17, 17)], [], [(99, 9999), (100, 9999)], [(some (0, (-13), 17), [])])
noncomputable def kl_325 : List jA := [((270, 113), [(6, 0, 19)], [], [], [], true, 0), ((270, 150), [(6, 0, 19)], [], [], [], true, 0)]
noncomputable def ks_325 : List ((Nat × Nat) × Nat) := [((215, 22), 99)]
/-- M.shift18 -/
noncomputable def kc_326 : jC := (270, 2, [.inl (.ref 66), .inr (0, (-2147483648), 2147483647), .inr (0, (-2147483648), 2147483647), .inr (0, (-2147483648), 2147483647), .inr (0, (-2147483648), 2147483647), .inr (0, 18, 18)], [], [(99, 9999), (100, 9999)], [(some (0, (-13), 18), [])])
noncomputable def kl_326 : List jA := [((270, 113), [(6, 0, 19)], [], [], [], true, 0), ((270, 150), [(6, 0, 19)], [], [], [], true, 0)]
noncomputable def ks_326 : List ((Nat × Nat) × Nat) := [((215, 22), 99)]
/-- M.shift19 -/
noncomputable def kc_327 : jC := (270, 2, [.inl (.ref 66), .inr (0, (-2147483648), 2147483647), .inr (0, (-2147483648), 2147483647), .inr (0, (-2147483648), 2147483647), .inr (0, (-2147483648), 2147483647), .inr (0, 19, 19)], [], [(99, 9999), (100, 9999)], [(some (0, (-13), 19), [])])
noncomputable def kl_327 : List jA := [((270, 113), [(6, 0, 19)], [], [], [], true, 0), ((270, 150), [(6, 0, 19)], [], [], [], true, 0)]
noncomputable def ks_327 : List ((Nat × Nat) × Nat) := [((215, 22), 99)]
/-- M.shift20 -/
noncomputable def kc_328 : jC := (270, 2, [.inl (.ref 66), .inr (0, (-2147483648), 2147483647), .inr (0, (-2147483648), 2147483647), .inr (0, (-2147483648), 2147483647), .inr (0, (-2147483648), 2147483647), .inr (0, 20, 20)], [], [(99, 9999), (100, 9999)], [(some (0, (-13), 20), [])])
noncomputable def kl_328 : List jA := [((270, 113), [(6, 0, 20)], [], [], [], true, 0), ((270, 150), [(6, 0, 20)], [], [], [], true, 0)]
noncomputable def ks_328 : List ((Nat × Nat) × Nat) := [((215, 22), 99)]
/-- M.shift21 -/
noncomputable def kc_329 : jC := (270, 2, [.inl (.ref 66), .inr (0, (-2147483648), 2147483647), .inr (0, (-2147483648), 2147483647), .inr (0, (-2147483648), 2147483647), .inr (0, (-2147483648), 2147483647), .inr (0, 21, 21)], [], [(99, 9999), (100, 9999)], [(some (0, (-13), 21), [])])
noncomputable def kl_329 : List jA := [((270, 113), [(6, 0, 24)], [], [], [], true, 0), ((270, 150), [(6, 0, 24)], [], [], [], true, 0)]
noncomputable def ks_329 : List ((Nat × Nat) × Nat) := [((215, 22), 99)]
/-- M.shift22 -/
noncomputable def kc_330 : jC := (270, 2, [.inl (.ref 66), .inr (0, (-2147483648), 2147483647), .inr (0, (-2147483648), 2147483647), .inr (0, (-2147483648), 2147483647), .inr (0, (-2147483648), 2147483647), .inr (0, 22, 22)], [], [(99, 9999), (100, 9999)], [(some (0, (-13), 22), [])])
noncomputable def kl_330 : List jA := [((270, 113), [(6, 0, 24)], [], [], [], true, 0), ((270, 150), [(6, 0, 24)], [], [], [], true, 0)]
noncomputable def ks_330 : List ((Nat × Nat) × Nat) := [((215, 22), 99)]
/-- M.shift23 -/
noncomputable def kc_331 : jC := (270, 2, [.inl (.ref 66), .inr (0, (-2147483648), 2147483647), .inr (0, (-2147483648), 2147483647), .inr (0, (-2147483648), 2147483647), .inr (0, (-2147483648), 2147483647), .inr (0, 23, 23)], [], [(99, 9999), (100, 9999)], [(some (0, (-13), 23), [])])
noncomputable def kl_331 : List jA := [((270, 113), [(6, 0, 24)], [], [], [], true, 0), ((270, 150), [(6, 0, 24)], [], [], [], true, 0)]
noncomputable def ks_331 : List ((Nat × Nat) × Nat) := [((215, 22), 99)]
/-- M.shift24 -/
noncomputable def kc_332 : jC := (270, 2, [.inl (.ref 66), .inr (0, (-2147483648), 2147483647), .inr (0, (-2147483648), 2147483647), .inr (0, (-2147483648), 2147483647), .inr (0, (-2147483648), 2147483647), .inr (0, 24, 24)], [], [(99, 9999), (100, 9999)], [(some (0, (-13), 24), [])])
noncomputable def kl_332 : List jA := [((270, 113), [(6, 0, 24)], [], [], [], true, 0), ((270, 150), [(6, 0, 24)], [], [], [], true, 0)]
noncomputable def ks_332 : List ((Nat × Nat) × Nat) := [((215, 22), 99)]
/-- M.shift25 -/
noncomputable def kc_333 : jC := (270, 2, [.inl (.ref 66), .inr (0, (-2147483648), 2147483647), .inr (0, (-2147483648), 2147483647), .inr (0, (-2147483648), 2147483647), .inr (0, (-2147483648), 2147483647), .inr (0, 25, 25)], [], [(99, 9999), (100, 9999)], [(some (0, (-13), 25), [])])
noncomputable def kl_333 : List jA := [((270, 113), [(6, 0, 28)], [], [], [], true, 0), ((270, 150), [(6, 0, 28)], [], [], [], true, 0)]
noncomputable def ks_333 : List ((Nat × Nat) × Nat) := [((215, 22), 99)]
/-- M.shift26 -/
noncomputable def kc_334 : jC := (270, 2, [.inl (.ref 66), .inr (0, (-2147483648), 2147483647), .inr (0, (-2147483648), 2147483647), .inr (0, (-2147483648), 2147483647), .inr (0, (-2147483648), 2147483647), .inr (0, 26, 26)], [], [(99, 9999), (100, 9999)], [(some (0, (-13), 26), [])])
noncomputable def kl_334 : List jA := [((270, 113), [(6, 0, 28)], [], [], [], true, 0), ((270, 150), [(6, 0, 28)], [], [], [], true, 0)]
noncomputable def ks_334 : List ((Nat × Nat) × Nat) := [((215, 22), 99)]
/-- M.shift27 -/
noncomputable def kc_335 : jC := (270, 2, [.inl (.ref 66), .inr (0, (-2147483648), 2147483647), .inr (0, (-2147483648), 2147483647), .inr (0, (-2147483648), 2147483647), .inr (0, (-2147483648), 2147483647), .inr (0, 27, 27)], [], [(99, 9999), (100, 9999)], [(some (0, (-13), 27), [])])
noncomputable def kl_335 : List jA := [((270, 113), [(6, 0, 28)], [], [], [], true, 0), ((270, 150), [(6, 0, 28)], [], [], [], true, 0)]
noncomputable def ks_335 : List ((Nat × Nat) × Nat) := [((215, 22), 99)]
/-- M.shift28 -/
noncomputable def kc_336 : jC := (270, 2, [.inl (.ref 66), .inr (0, (-2147483648), 2147483647), .inr (0, (-2147483648), 2147483647), .inr (0, (-2147483648), 2147483647), .inr (0, (-2147483648), 2147483647), .inr (0, 28, 28)], [], [(99, 9999), (100, 9999)], [(some (0, (-13), 28), [])])
noncomputable def kl_336 : List jA := [((270, 113), [(6, 0, 28)], [], [], [], true, 0), ((270, 150), [(6, 0, 28)], [], [], [], true, 0)]
noncomputable def ks_336 : List ((Nat × Nat) × Nat) := [((215, 22), 99)]
/-- M.shift29 -/
noncomputable def kc_337 : jC := (270, 2, [.inl (.ref 66), .inr (0, (-2147483648), 2147483647), .inr (0, (-2147483648), 2147483647), .inr (0, (-2147483648), 2147483647), .inr (0, (-2147483648), 2147483647), .inr (0, 29, 29)], [], [(99, 9999), (100, 9999)], [(some (0, (-13), 29), [])])
noncomputable def kl_337 : List jA := [((270, 113), [(6, 0, 29)], [], [], [], true, 0), ((270, 150), [(6, 0, 29)], [], [], [], true, 0)]
noncomputable def ks_337 : List ((Nat × Nat) × Nat) := [((215, 22), 99)]
/-- M.shift30 -/
noncomputable def kc_338 : jC := (270, 2, [.inl (.ref 66), .inr (0, (-2147483648), 2147483647), .inr (0, (-2147483648), 2147483647), .inr (0, (-2147483648), 2147483647), .inr (0, (-2147483648), 2147483647), .inr (0, 30, 30)], [], [(99, 9999), (100, 9999)], [(some (0, (-13), 30), [])])
noncomputable def kl_338 : List jA := [((270, 113), [(6, 0, 30)], [], [], [], true, 0), ((270, 150), [(6, 0, 30)], [], [], [], true, 0)]
noncomputable def ks_338 : List ((Nat × Nat) × Nat) := [((215, 22), 99)]
/-- M.shift31 -/
noncomputable def kc_339 : jC := (270, 2, [.inl (.ref 66), .inr (0, (-2147483648), 2147483647), .inr (0, (-2147483648), 2147483647), .inr (0, (-2147483648), 2147483647), .inr (0, (-2147483648), 2147483647), .inr (0, 31, 31)], [], [(99, 9999), (100, 9999)], [(some (0, (-13), 31), [])])
noncomputable def kl_339 : List jA := [((270, 113), [(6, 0, 31)], [], [], [], true, 0), ((270, 150), [(6, 0, 31)], [], [], [], true, 0)]
noncomputable def ks_339 : List ((Nat × Nat) × Nat) := [((215, 22), 99)]
/-- M.shift32 -/
noncomputable def kc_340 : jC := (270, 2, [.inl (.ref 66), .inr (0, (-2147483648), 2147483647), .inr (0, (-2147483648), 2147483647), .inr (0, (-2147483648), 2147483647), .inr (0, (-2147483648), 2147483647), .inr (0, 32, 32)], [], [(99, 9999), (100, 9999)], [(some (0, (-13), 32), [])])
noncomputable def kl_340 : List jA := [((270, 113), [(6, 0, 35)], [], [], [], true, 0), ((270, 150), [(6, 0, 35)], [], [], [], true, 0)]
noncomputable def ks_340 : List ((Nat × Nat) × Nat) := [((215, 22), 99)]
/-- M.shift33 -/
noncomputable def kc_341 : jC := (270, 2, [.inl (.ref 66), .inr (0, (-2147483648), 2147483647), .inr (0, (-2147483648), 2147483647), .inr (0, (-2147483648), 2147483647), .inr (0, (-2147483648), 2147483647), .inr (0, 33, 33)], [], [(99, 9999), (100, 9999)], [(some (0, (-13), 33), [])])
noncomputable def kl_341 : List jA := [((270, 113), [(6, 0, 35)], [], [], [], true, 0), ((270, 150), [(6, 0, 35)], [], [], [], true, 0)]
noncomputable def ks_341 : List ((Nat × Nat) × Nat) := [((215, 22), 99)]
/-- M.shift34 -/
noncomputable def kc_342 : jC := (270, 2, [.inl (.ref 66), .inr (0, (-2147483648), 2147483647), .inr (0, (-2147483648), 2147483647), .inr (0, (-2147483648), 2147483647), .inr (0, (-2147483648), 2147483647), .inr (0, 34, 34)], [], [(99, 9999), (100, 9999)], [(some (0, (-13), 34), [])])
noncomputable def kl_342 : List jA := [((270, 113), [(6, 0, 35)], [], [], [], true, 0), ((270, 150), [(6, 0, 35)], [], [], [], true, 0)]
noncomputable def ks_342 : List ((Nat × Nat) × Nat) := [((215, 22), 99)]
/-- M.shift35 -/
noncomputable def kc_343 : jC := (270, 2, [.inl (.ref 66), .inr (0, (-2147483648), 2147483647), .inr (0, (-2147483648), 2147483647), .inr (0, (-2147483648), 2147483647), .inr (0, (-2147483648), 2147483647), .inr (0, 35, 35)], [], [(99, 9999), (100, 9999)], [(some (0, (-13), 35), [])])
noncomputable def kl_343 : List jA := [((270, 113), [(6, 0, 35)], [], [], [], true, 0), ((270, 150), [(6, 0, 35)], [], [], [], true, 0)]
noncomputable def ks_343 : List ((Nat × Nat) × Nat) := [((215, 22), 99)]
/-- M.shift36 -/
noncomputable def kc_344 : jC := (270, 2, [.inl (.ref 66), .inr (0, (-2147483648), 2147483647), .inr (0, (-2147483648), 2147483647), .inr (0, (-2147483648), 2147483647), .inr (0, (-2147483648), 2147483647), .inr (0, 36, 36)], [], [(99, 9999), (100, 9999)], [(some (0, (-13), 36), [])])
noncomputable def kl_344 : List jA := [((270, 113), [(6, 0, 36)], [], [], [], true, 0), ((270, 150), [(6, 0, 36)], [], [], [], true, 0)]
noncomputable def ks_344 : List ((Nat × Nat) × Nat) := [((215, 22), 99)]
/-- M.shift37 -/
noncomputable def kc_345 : jC := (270, 2, [.inl (.ref 66), .inr (0, (-2147483648), 2147483647), .inr (0, (-2147483648), 2147483647), .inr (0, (-2147483648), 2147483647), .inr (0, (-2147483648), 2147483647), .inr (0, 37, 37)], [], [(99, 9999), (100, 9999)], [(some (0, (-13), 37), [])])
noncomputable def kl_345 : List jA := [((270, 113), [(6, 0, 40)], [], [], [], true, 0), ((270, 150), [(6, 0, 40)], [], [], [], true, 0)]
noncomputable def ks_345 : List ((Nat × Nat) × Nat) := [((215, 22), 99)]
/-- M.shift38 -/
noncomputable def kc_346 : jC := (270, 2, [.inl (.ref 66), .inr (0, (-2147483648), 2147483647), .inr (0, (-2147483648), 2147483647), .inr (0, (-2147483648), 2147483647), .inr (0, (-2147483648), 2147483647), .inr (0, 38, 38)], [], [(99, 9999), (100, 9999)], [(some (0, (-13), 38), [])])
noncomputable def kl_346 : List jA := [((270, 113), [(6, 0, 40)], [], [], [], true, 0), ((270, 150), [(6, 0, 40)], [], [], [], true, 0)]
noncomputable def ks_346 : List ((Nat × Nat) × Nat) := [((215, 22), 99)]
/-- M.shift39 -/
noncomputable def kc_347 : jC := (270, 2, [.inl (.ref 66), .inr (0, (-2147483648), 2147483647), .inr (0, (-2147483648), 2147483647), .inr (0, (-2147483648), 2147483647), .inr (0, (-2147483648), 2147483647), .inr (0, 39, 39)], [], [(99, 9999), (100, 9999)], [(some (0, (-13), 39), [])])
noncomputable def kl_347 : List jA := [((270, 113), [(6, 0, 40)], [], [], [], true, 0), ((270, 150), [(6, 0, 40)], [], [], [], true, 0)]
noncomputable def ks_347 : List ((Nat × Nat) × Nat) := [((215, 22), 99)]
/-- M.shift40 -/
noncomputable def kc_348 : jC := (270, 2, [.inl (.ref 66), .inr (0, (-2147483648), 2147483647), .inr (0, (-2147483648), 2147483647), .inr (0, (-2147483648), 2147483647), .inr (0, (-2147483648), 2147483647), .inr (0, 40, 40)], [], [(99, 9999), (100, 9999)], [(some (0, (-13), 40), [])])
noncomputable def kl_348 : List jA := [((270, 113), [(6, 0, 40)], [], [], [], true, 0), ((270, 150), [(6, 0, 40)], [], [], [], true, 0)]
noncomputable def ks_348 : List ((Nat × Nat) × Nat) := [((215, 22), 99)]
/-- M.shift41 -/
noncomputable def kc_349 : jC := (270, 2, [.inl (.ref 66), .inr (0, (-2147483648), 2147483647), .inr (0, (-2147483648), 2147483647), .inr (0, (-2147483648), 2147483647), .inr (0, (-2147483648), 2147483647), .inr (0, 41, 41)], [], [(99, 9999), (100, 9999)], [(some (0, (-13), 41), [])])
noncomputable def kl_349 : List jA := [((270, 113), [(6, 0, 41)], [], [], [], true, 0), ((270, 150), [(6, 0, 41)], [], [], [], true, 0)]
noncomputable def ks_349 : List ((Nat × Nat) × Nat) := [((215, 22), 99)]
/-- M.shift42 -/
noncomputable def kc_350 : jC := (270, 2, [.inl (.ref 66), .inr (0, (-2147483648), 2147483647), .inr (0, (-2147483648), 2147483647), .inr (0, (-2147483648), 2147483647), .inr (0, (-2147483648), 2147483647), .inr (0, 42, 42)], [], [(99, 9999), (100, 9999)], [(some (0, (-13), 42), [])])
noncomputable def kl_350 : List jA := [((270, 113), [(6, 0, 48)], [], [], [], true, 0), ((270, 150), [(6, 0, 48)], [], [], [], true, 0)]
noncomputable def ks_350 : List ((Nat × Nat) × Nat) := [((215, 22), 99)]
/-- M.shift43 -/
noncomputable def kc_351 : jC := (270, 2, [.inl (.ref 66), .inr (0, (-2147483648), 2147483647), .inr (0, (-2147483648), 2147483647), .inr (0, (-2147483648), 2147483647), .inr (0, (-2147483648), 2147483647), .inr (0, 43, 43)], [], [(99, 9999), (100, 9999)], [(some (0, (-13), 43), [])])
noncomputable def kl_351 : List jA := [((270, 113), [(6, 0, 48)], [], [], [], true, 0), ((270, 150), [(6, 0, 48)], [], [], [], true, 0)]
noncomputable def ks_351 : List ((Nat × Nat) × Nat) := [((215, 22), 99)]
/-- M.shift44 -/
noncomputable def kc_352 : jC := (270, 2, [.inl (.ref 66), .inr (0, (-2147483648), 2147483647), .inr (0, (-2147483648), 2147483647), .inr (0, (-2147483648), 2147483647), .inr (0, (-2147483648), 2147483647), .inr (0, 44, 44)], [], [(99, 9999), (100, 9999)], [(some (0, (-13), 44), [])])
noncomputable def kl_352 : List jA := [((270, 113), [(6, 0, 48)], [], [], [], true, 0), ((270, 150), [(6, 0, 48)], [], [], [], true, 0)]
noncomputable def ks_352 : List ((Nat × Nat) × Nat) := [((215, 22), 99)]
/-- M.shift45 -/
noncomputable def kc_353 : jC := (270, 2, [.inl (.ref 66), .inr (0, (-2147483648), 2147483647), .inr (0, (-2147483648), 2147483647), .inr (0, (-2147483648), 2147483647), .inr (0, (-2147483648), 2147483647), .inr (0, 45, 45)], [], [(99, 9999), (100, 9999)], [(some (0, (-13), 45), [])])
noncomputable def kl_353 : List jA := [((270, 113), [(6, 0, 48)], [], [], [], true, 0), ((270, 150), [(6, 0, 48)], [], [], [], true, 0)]
noncomputable def ks_353 : List ((Nat × Nat) × Nat) := [((215, 22), 99)]
/-- M.shift46 -/
noncomputable def kc_354 : jC := (270, 2, [.inl (.ref 66), .inr (0, (-2147483648), 2147483647), .inr (0, (-2147483648), 2147483647), .inr (0, (-2147483648), 2147483647), .inr (0, (-2147483648), 2147483647), .inr (0, 46, 46)], [], [(99, 9999), (100, 9999)], [(some (0, (-13), 46), [])])
noncomputable def kl_354 : List jA := [((270, 113), [(6, 0, 48)], [], [], [], true, 0), ((270, 150), [(6, 0, 48)], [], [], [], true, 0)]
noncomputable def ks_354 : List ((Nat × Nat) × Nat) := [((215, 22), 99)]
/-- M.shift47 -/
noncomputable def kc_355 : jC := (270, 2, [.inl (.ref 66), .inr (0, (-2147483648), 2147483647), .inr (0, (-2147483648), 2147483647), .inr (0, (-2147483648), 2147483647), .inr (0, (-2147483648), 2147483647), .inr (0, 47, 47)], [], [(99, 9999), (100, 9999)], [(some (0, (-13), 47), [])])
noncomputable def kl_355 : List jA := [((270, 113), [(6, 0, 48)], [], [], [], true, 0), ((270, 150), [(6, 0, 48)], [], [], [], true, 0)]
noncomputable def ks_355 : List ((Nat × Nat) × Nat) := [((215, 22), 99)]
/-- M.shift48 -/
noncomputable def kc_356 : jC := (270, 2, [.inl (.ref 66), .inr (0, (-2147483648), 2147483647), .inr (0, (-2147483648), 2147483647), .inr (0, (-2147483648), 2147483647), .inr (0, (-2147483648), 2147483647), .inr (0, 48, 48)], [], [(99, 9999), (100, 9999)], [(some (0, (-13), 48), [])])
noncomputable def kl_356 : List jA := [((270, 113), [(6, 0, 48)], [], [], [], true, 0), ((270, 150), [(6, 0, 48)], [], [], [], true, 0)]
noncomputable def ks_356 : List ((Nat × Nat) × Nat) := [((215, 22), 99)]
/-- M.shift49 -/
noncomputable def kc_357 : jC := (270, 2, [.inl (.ref 66), .inr (0, (-2147483648), 2147483647), .inr (0, (-2147483648), 2147483647), .inr (0, (-2147483648), 2147483647), .inr (0, (-2147483648), 2147483647), .inr (0, 49, 49)], [], [(99, 9999), (100, 9999)], [(some (0, (-13), 49), [])])
noncomputable def kl_357 : List jA := [((270, 113), [(6, 0, 49)], [], [], [], true, 0), ((270, 150), [(6, 0, 49)], [], [], [], true, 0)]
noncomputable def ks_357 : List ((Nat × Nat) × Nat) := [((215, 22), 99)]
/-- M.shift50 -/
noncomputable def kc_358 : jC := (270, 2, [.inl (.ref 66), .inr (0, (-2147483648), 2147483647), .inr (0, (-2147483648), 2147483647), .inr (0, (-2147483648), 2147483647), .inr (0, (-2147483648), 2147483647), .inr (0, 50, 50)], [], [(99, 9999), (100, 9999)], [(some (0, (-13), 50), [])])
noncomputable def kl_358 : List jA := [((270, 113), [(6, 0, 50)], [], [], [], true, 0), ((270, 150), [(6, 0, 50)], [], [], [], true, 0)]
noncomputable def ks_358 : List ((Nat × Nat) × Nat) := [((215, 22), 99)]
/-- M.shift51 -/
noncomputable def kc_359 : jC := (270, 2, [.inl (.ref 66), .inr (0, (-2147483648), 2147483647), .inr (0, (-2147483648), 2147483647), .inr (0, (-2147483648), 2147483647), .inr (0, (-2147483648), 2147483647), .inr (0, 51, 51)], [], [(99, 9999), (100, 9999)], [(some (0, (-13), 51), [])])
noncomputable def kl_359 : List jA := [((270, 113), [(6, 0, 58)], [], [], [], true, 0), ((270, 150), [(6, 0, 58)], [], [], [], true, 0)]
noncomputable def ks_359 : List ((Nat × Nat) × Nat) := [((215, 22), 99)]
/-- M.shift52 -/
noncomputable def kc_360 : jC := (270, 2, [.inl (.ref 66), .inr (0, (-2147483648), 2147483647), .inr (0, (-2147483648), 2147483647), .inr (0, (-2147483648), 2147483647), .inr (0, (-2147483648), 2147483647), .inr (0, 52, 52)], [], [(99, 9999), (100, 9999)], [(some (0, (-13), 52), [])])
noncomputable def kl_360 : List jA := [((270, 113), [(6, 0, 58)], [], [], [], true, 0), ((270, 150), [(6, 0, 58)], [], [], [], true, 0)]
noncomputable def ks_360 : List ((Nat × Nat) × Nat) := [((215, 22), 99)]
/-- M.shift53 -/
noncomputable def kc_361 : jC := (270, 2, [.inl (.ref 66), .inr (0, (-2147483648), 2147483647), .inr (0, (-2147483648), 2147483647), .inr (0, (-2147483648), 2147483647), .inr (0, (-2147483648), 2147483647), .inr (0, 53, 53)], [], [(99, 9999), (100, 9999)], [(some (0, (-13), 53), [])])
noncomputable def kl_361 : List jA := [((270, 113), [(6, 0, 58)], [], [], [], true, 0), ((270, 150), [(6, 0, 58)], [], [], [], true, 0)]
noncomputable def ks_361 : List ((Nat × Nat) × Nat) := [((215, 22), 99)]
/-- M.shift54 -/
noncomputable def kc_362 : jC := (270, 2, [.inl (.ref 66), .inr (0, (-2147483648), 2147483647), .inr (0, (-2147483648), 2147483647), .inr (0, (-2147483648), 2147483647), .inr (0, (-2147483648), 2147483647), .inr (0, 54, 54)], [], [(99, 9999), (100, 9999)], [(some (0, (-13), 54), [])])
noncomputable def kl_362 : List jA := [((270, 113), [(6, 0, 58)], [], [], [], true, 0), ((270, 150), [(6, 0, 58)], [], [], [], true, 0)]
noncomputable def ks_362 : List ((Nat × Nat) × Nat) := [((215, 22), 99)]
/-- M.shift55 -/
noncomputable def kc_363 : jC := (270, 2, [.inl (.ref 66), .inr (0, (-2147483648), 2147483647), .inr (0, (-2147483648), 2147483647), .inr (0, (-2147483648), 2147483647), .inr (0, (-2147483648), 2147483647), .inr (0, 55, 55)], [], [(99, 9999), (100, 9999)], [(some (0, (-13), 55), [])])
noncomputable def kl_363 : List jA := [((270, 113), [(6, 0, 58)], [], [], [], true, 0), ((270, 150), [(6, 0, 58)], [], [], [], true, 0)]
noncomputable def ks_363 : List ((Nat × Nat) × Nat) := [((215, 22), 99)]
/-- M.shift56 -/
noncomputable def kc_364 : jC := (270, 2, [.inl (.ref 66), .inr (0, (-2147483648), 2147483647), .inr (0, (-2147483648), 2147483647), .inr (0, (-2147483648), 2147483647), .inr (0, (-2147483648), 2147483647), .inr (0, 56, 56)], [], [(99, 9999), (100, 9999)], [(some (0, (-13), 56), [])])
noncomputable def kl_364 : List jA := [((270, 113), [(6, 0, 58)], [], [], [], true, 0), ((270, 150), [(6, 0, 58)], [], [], [], true, 0)]
noncomputable def ks_364 : List ((Nat × Nat) × Nat) := [((215, 22), 99)]
/-- M.shift57 -/
noncomputable def kc_365 : jC := (270, 2, [.inl (.ref 66), .inr (0, (-2147483648), 2147483647), .inr (0, (-2147483648), 2147483647), .inr (0, (-2147483648), 2147483647), .inr (0, (-2147483648), 2147483647), .inr (0, 57, 57)], [], [(99, 9999), (100, 9999)], [(some (0, (-13), 57), [])])
noncomputable def kl_365 : List jA := [((270, 113), [(6, 0, 58)], [], [], [], true, 0), ((270, 150), [(6, 0, 58)], [], [], [], true, 0)]
noncomputable def ks_365 : List ((Nat × Nat) × Nat) := [((215, 22), 99)]
/-- M.shift58 -/
noncomputable def kc_366 : jC := (270, 2, [.inl (.ref 66), .inr (0, (-2147483648), 2147483647), .inr (0, (-2147483648), 2147483647), .inr (0, (-2147483648), 2147483647), .inr (0, (-2147483648), 2147483647), .inr (0, 58, 58)], [], [(99, 9999), (100, 9999)], [(some (0, (-13), 58), [])])
noncomputable def kl_366 : List jA := [((270, 113), [(6, 0, 58)], [], [], [], true, 0), ((270, 150), [(6, 0, 58)], [], [], [], true, 0)]
noncomputable def ks_366 : List ((Nat × Nat) × Nat) := [((215, 22), 99)]
/-- M.shift59 -/
noncomputable def kc_367 : jC := (270, 2, [.inl (.ref 66), .inr (0, (-2147483648), 2147483647), .inr (0, (-2147483648), 2147483647), .inr (0, (-2147483648), 2147483647), .inr (0, (-2147483648), 2147483647), .inr (0, 59, 59)], [], [(99, 9999), (100, 9999)], [(some (0, (-13), 59), [])])
noncomputable def kl_367 : List jA := [((270, 113), [(6, 0, 59)], [], [], [], true, 0), ((270, 150), [(6, 0, 59)], [], [], [], true, 0)]
noncomputable def ks_367 : List ((Nat × Nat) × Nat) := [((215, 22), 99)]
/-- M.shift60 -/
noncomputable def kc_368 : jC := (270, 2, [.inl (.ref 66), .inr (0, (-2147483648), 2147483647), .inr (0, (-2147483648), 2147483647), .inr (0, (-2147483648), 2147483647), .inr (0, (-2147483648), 2147483647), .inr (0, 60, 60)], [], [(99, 9999), (100, 9999)], [(some (0, (-13), 60), [])])
noncomputable def kl_368 : List jA := [((270, 113), [(6, 0, 60)], [], [], [], true, 0), ((270, 150), [(6, 0, 60)], [], [], [], true, 0)]
noncomputable def ks_368 : List ((Nat × Nat) × Nat) := [((215, 22), 99)]
/-- M.shift61 -/
noncomputable def kc_369 : jC := (270, 2, [.inl (.ref 66), .inr (0, (-2147483648), 2147483647), .inr (0, (-2147483648), 2147483647), .inr (0, (-2147483648), 2147483647), .inr (0, (-2147483648), 2147483647), .inr (0, 61, 2147483647)], [], [], [(some (0, (-13), (-1)), [])])
noncomputable def kl_369 : List jA := []
noncomputable def ks_369 : List ((Nat × Nat) × Nat) := [((215, 22), 99)]
/-- X.taken -/
noncomputable def kc_370 : jC := (170, 1, [.inl (.ref 0), .inr (0, (-2147483648), 2147483647), .inr (0, (-2147483648), 2147483647)], [], [], [(some (0, (-12), 7), [])])
noncomputable def kl_370 : List jA := [((109, 4), [(2, 0, 7), (3, 0, 8)], [], [], [], true, 1)]
noncomputable def ks_370 : List ((Nat × Nat) × Nat) := [((114, 0), 1), ((115, 0), 1), ((215, 22), 99)]
/-- M.taken -/
noncomputable def kc_371 : jC := (271, 2, [.inl (.ref 66), .inr (0, (-2147483648), 2147483647), .inr (0, (-2147483648), 2147483647)], [], [], [(some (0, (-12), 7), [])])
noncomputable def kl_371 : List jA := [((271, 58), [(3, 0, 7)], [], [], [], false, 0)]
noncomputable def ks_371 : List ((Nat × Nat) × Nat) := [((215, 22), 99), ((257, 0), 1), ((258, 0), 1), ((259, 0), 1), ((260, 0), 1)]
/-- X.count -/
noncomputable def kc_372 : jC := (171, 1, [.inl (.ref 0), .inr (0, (-2147483648), 2147483647)], [], [], [(some (0, (-2147483648), 2147483647), [])])
noncomputable def kl_372 : List jA := [((13, 4), [(1, (-2147483648), 2147483647), (2, 0, 7)], [], [], [], true, 1)]
noncomputable def ks_372 : List ((Nat × Nat) × Nat) := [((114, 0), 1), ((115, 0), 1), ((215, 22), 99)]
/-- M.count -/
noncomputable def kc_373 : jC := (272, 1, [.inl (.ref 66), .inr (0, (-2147483648), 2147483647)], [], [], [(some (0, (-2147483648), 2147483647), [])])
noncomputable def kl_373 : List jA := [((251, 4), [(1, (-2147483648), 2147483647), (2, 0, 7)], [], [], [], true, 1)]
noncomputable def ks_373 : List ((Nat × Nat) × Nat) := [((215, 22), 99), ((257, 0), 1), ((258, 0), 1), ((259, 0), 1), ((260, 0), 1)]
