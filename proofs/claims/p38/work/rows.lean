section
-- ===== PART A: goes FIRST, ahead of the names: the tables' words, and 'selects' of the private methods out of them =====
/-- a private method of a class that the tables say can be made, by its rows of tables_1 -/
def lw_okq (q : MethodName × Nat) : Prop := (q.1.cls ≠ "java/lang/invoke/MethodHandle" ∧ q.1.cls ≠ "java/lang/invoke/VarHandle") ∧ Cond.instantiable q.1.cls q.2 ∈ tables_1 ∧ Cond.privateMethod q.1 ∈ tables_1 ∧ Cond.instanceMethod q.1 ∈ tables_1
theorem lw_p0 : lw_okq (⟨"TwoAlike", "comeFromRow", "(III)I"⟩, 14) := ⟨⟨by decide +kernel, by decide +kernel⟩, List.mem_of_getElem? (i := 18) (by decide +kernel), List.mem_of_getElem? (i := 439) (by decide +kernel), List.mem_of_getElem? (i := 440) (by decide +kernel)⟩
theorem lw_p1 : lw_okq (⟨"TwoAlike", "mayBecome", "(III)Z"⟩, 14) := ⟨⟨by decide +kernel, by decide +kernel⟩, List.mem_of_getElem? (i := 18) (by decide +kernel), List.mem_of_getElem? (i := 488) (by decide +kernel), List.mem_of_getElem? (i := 489) (by decide +kernel)⟩
theorem lw_p2 : lw_okq (⟨"TwoAlike$Changes", "forgetFirst", "()V"⟩, 7) := ⟨⟨by decide +kernel, by decide +kernel⟩, List.mem_of_getElem? (i := 290) (by decide +kernel), List.mem_of_getElem? (i := 500) (by decide +kernel), List.mem_of_getElem? (i := 501) (by decide +kernel)⟩
theorem lw_p3 : lw_okq (⟨"TwoAlike", "ofPerson", "(II)I"⟩, 14) := ⟨⟨by decide +kernel, by decide +kernel⟩, List.mem_of_getElem? (i := 18) (by decide +kernel), List.mem_of_getElem? (i := 512) (by decide +kernel), List.mem_of_getElem? (i := 513) (by decide +kernel)⟩
theorem lw_p4 : lw_okq (⟨"TwoAlike", "ofSight", "(II)I"⟩, 14) := ⟨⟨by decide +kernel, by decide +kernel⟩, List.mem_of_getElem? (i := 18) (by decide +kernel), List.mem_of_getElem? (i := 531) (by decide +kernel), List.mem_of_getElem? (i := 532) (by decide +kernel)⟩
theorem lw_p5 : lw_okq (⟨"TwoAlike$Tape", "readLine", "()Z"⟩, 4) := ⟨⟨by decide +kernel, by decide +kernel⟩, List.mem_of_getElem? (i := 139) (by decide +kernel), List.mem_of_getElem? (i := 551) (by decide +kernel), List.mem_of_getElem? (i := 552) (by decide +kernel)⟩
theorem lw_p6 : lw_okq (⟨"TwoAlike$Tape", "readEither", "(I)Z"⟩, 4) := ⟨⟨by decide +kernel, by decide +kernel⟩, List.mem_of_getElem? (i := 139) (by decide +kernel), List.mem_of_getElem? (i := 555) (by decide +kernel), List.mem_of_getElem? (i := 556) (by decide +kernel)⟩
theorem lw_p7 : lw_okq (⟨"TwoAlike$Tape", "readBoth", "(I)Z"⟩, 4) := ⟨⟨by decide +kernel, by decide +kernel⟩, List.mem_of_getElem? (i := 139) (by decide +kernel), List.mem_of_getElem? (i := 559) (by decide +kernel), List.mem_of_getElem? (i := 560) (by decide +kernel)⟩
theorem lw_p8 : lw_okq (⟨"TwoAlike$Tape", "readComparison", "(I)Z"⟩, 4) := ⟨⟨by decide +kernel, by decide +kernel⟩, List.mem_of_getElem? (i := 139) (by decide +kernel), List.mem_of_getElem? (i := 563) (by decide +kernel), List.mem_of_getElem? (i := 564) (by decide +kernel)⟩
theorem lw_p9 : lw_okq (⟨"TwoAlike$Tape", "readSum", "(I)Z"⟩, 4) := ⟨⟨by decide +kernel, by decide +kernel⟩, List.mem_of_getElem? (i := 139) (by decide +kernel), List.mem_of_getElem? (i := 567) (by decide +kernel), List.mem_of_getElem? (i := 568) (by decide +kernel)⟩
theorem lw_p10 : lw_okq (⟨"TwoAlike$Tape", "readProduct", "(I)Z"⟩, 4) := ⟨⟨by decide +kernel, by decide +kernel⟩, List.mem_of_getElem? (i := 139) (by decide +kernel), List.mem_of_getElem? (i := 571) (by decide +kernel), List.mem_of_getElem? (i := 572) (by decide +kernel)⟩
theorem lw_p11 : lw_okq (⟨"TwoAlike$Tape", "readOperand", "(I)Z"⟩, 4) := ⟨⟨by decide +kernel, by decide +kernel⟩, List.mem_of_getElem? (i := 139) (by decide +kernel), List.mem_of_getElem? (i := 575) (by decide +kernel), List.mem_of_getElem? (i := 576) (by decide +kernel)⟩
theorem lw_p12 : lw_okq (⟨"TwoAlike$Tape", "next", "()I"⟩, 4) := ⟨⟨by decide +kernel, by decide +kernel⟩, List.mem_of_getElem? (i := 139) (by decide +kernel), List.mem_of_getElem? (i := 579) (by decide +kernel), List.mem_of_getElem? (i := 580) (by decide +kernel)⟩
theorem lw_p13 : lw_okq (⟨"TwoAlike$Tape", "readNumber", "()Z"⟩, 4) := ⟨⟨by decide +kernel, by decide +kernel⟩, List.mem_of_getElem? (i := 139) (by decide +kernel), List.mem_of_getElem? (i := 586) (by decide +kernel), List.mem_of_getElem? (i := 587) (by decide +kernel)⟩
theorem lw_p14 : lw_okq (⟨"TwoAlike$Tape", "readOpened", "(II)Z"⟩, 4) := ⟨⟨by decide +kernel, by decide +kernel⟩, List.mem_of_getElem? (i := 139) (by decide +kernel), List.mem_of_getElem? (i := 597) (by decide +kernel), List.mem_of_getElem? (i := 598) (by decide +kernel)⟩
theorem lw_p15 : lw_okq (⟨"TwoAlike$Tape", "passOver", "(I)Z"⟩, 4) := ⟨⟨by decide +kernel, by decide +kernel⟩, List.mem_of_getElem? (i := 139) (by decide +kernel), List.mem_of_getElem? (i := 601) (by decide +kernel), List.mem_of_getElem? (i := 602) (by decide +kernel)⟩
def lw_privs_1 : List (MethodName × Nat) := [(⟨"TwoAlike", "comeFromRow", "(III)I"⟩, 14), (⟨"TwoAlike", "mayBecome", "(III)Z"⟩, 14), (⟨"TwoAlike$Changes", "forgetFirst", "()V"⟩, 7), (⟨"TwoAlike", "ofPerson", "(II)I"⟩, 14), (⟨"TwoAlike", "ofSight", "(II)I"⟩, 14), (⟨"TwoAlike$Tape", "readLine", "()Z"⟩, 4), (⟨"TwoAlike$Tape", "readEither", "(I)Z"⟩, 4), (⟨"TwoAlike$Tape", "readBoth", "(I)Z"⟩, 4), (⟨"TwoAlike$Tape", "readComparison", "(I)Z"⟩, 4), (⟨"TwoAlike$Tape", "readSum", "(I)Z"⟩, 4), (⟨"TwoAlike$Tape", "readProduct", "(I)Z"⟩, 4), (⟨"TwoAlike$Tape", "readOperand", "(I)Z"⟩, 4), (⟨"TwoAlike$Tape", "next", "()I"⟩, 4), (⟨"TwoAlike$Tape", "readNumber", "()Z"⟩, 4), (⟨"TwoAlike$Tape", "readOpened", "(II)Z"⟩, 4), (⟨"TwoAlike$Tape", "passOver", "(I)Z"⟩, 4)]
theorem lw_r1 : ∀ q ∈ lw_privs_1, lw_okq q := List.forall_mem_cons.mpr ⟨lw_p0, List.forall_mem_cons.mpr ⟨lw_p1, List.forall_mem_cons.mpr ⟨lw_p2, List.forall_mem_cons.mpr ⟨lw_p3, List.forall_mem_cons.mpr ⟨lw_p4, List.forall_mem_cons.mpr ⟨lw_p5, List.forall_mem_cons.mpr ⟨lw_p6, List.forall_mem_cons.mpr ⟨lw_p7, List.forall_mem_cons.mpr ⟨lw_p8, List.forall_mem_cons.mpr ⟨lw_p9, List.forall_mem_cons.mpr ⟨lw_p10, List.forall_mem_cons.mpr ⟨lw_p11, List.forall_mem_cons.mpr ⟨lw_p12, List.forall_mem_cons.mpr ⟨lw_p13, List.forall_mem_cons.mpr ⟨lw_p14, List.forall_mem_cons.mpr ⟨lw_p15, fun _ h => absurd h List.not_mem_nil⟩⟩⟩⟩⟩⟩⟩⟩⟩⟩⟩⟩⟩⟩⟩⟩
theorem lw_p16 : lw_okq (⟨"TwoAlike$Law", "pop", "()I"⟩, 6) := ⟨⟨by decide +kernel, by decide +kernel⟩, List.mem_of_getElem? (i := 113) (by decide +kernel), List.mem_of_getElem? (i := 650) (by decide +kernel), List.mem_of_getElem? (i := 651) (by decide +kernel)⟩
theorem lw_p17 : lw_okq (⟨"TwoAlike$Law", "run", "(II)V"⟩, 6) := ⟨⟨by decide +kernel, by decide +kernel⟩, List.mem_of_getElem? (i := 113) (by decide +kernel), List.mem_of_getElem? (i := 654) (by decide +kernel), List.mem_of_getElem? (i := 655) (by decide +kernel)⟩
theorem lw_p18 : lw_okq (⟨"TwoAlike$Law", "push", "(I)V"⟩, 6) := ⟨⟨by decide +kernel, by decide +kernel⟩, List.mem_of_getElem? (i := 113) (by decide +kernel), List.mem_of_getElem? (i := 658) (by decide +kernel), List.mem_of_getElem? (i := 659) (by decide +kernel)⟩
theorem lw_p19 : lw_okq (⟨"TwoAlike$Day", "layWithout", "(I)V"⟩, 13) := ⟨⟨by decide +kernel, by decide +kernel⟩, List.mem_of_getElem? (i := 181) (by decide +kernel), List.mem_of_getElem? (i := 678) (by decide +kernel), List.mem_of_getElem? (i := 679) (by decide +kernel)⟩
theorem lw_p20 : lw_okq (⟨"TwoAlike$Day", "takeTurn", "(II)I"⟩, 13) := ⟨⟨by decide +kernel, by decide +kernel⟩, List.mem_of_getElem? (i := 181) (by decide +kernel), List.mem_of_getElem? (i := 682) (by decide +kernel), List.mem_of_getElem? (i := 683) (by decide +kernel)⟩
theorem lw_p21 : lw_okq (⟨"TwoAlike$Day", "stayAtHome", "(I)V"⟩, 13) := ⟨⟨by decide +kernel, by decide +kernel⟩, List.mem_of_getElem? (i := 181) (by decide +kernel), List.mem_of_getElem? (i := 686) (by decide +kernel), List.mem_of_getElem? (i := 687) (by decide +kernel)⟩
theorem lw_p22 : lw_okq (⟨"TwoAlike$Day", "shutMinutes", "(II)I"⟩, 13) := ⟨⟨by decide +kernel, by decide +kernel⟩, List.mem_of_getElem? (i := 181) (by decide +kernel), List.mem_of_getElem? (i := 690) (by decide +kernel), List.mem_of_getElem? (i := 691) (by decide +kernel)⟩
theorem lw_p23 : lw_okq (⟨"TwoAlike$Day", "orderFrom", "(III)V"⟩, 13) := ⟨⟨by decide +kernel, by decide +kernel⟩, List.mem_of_getElem? (i := 181) (by decide +kernel), List.mem_of_getElem? (i := 729) (by decide +kernel), List.mem_of_getElem? (i := 730) (by decide +kernel)⟩
theorem lw_p24 : lw_okq (⟨"TwoAlike$Day", "keepOrder", "(I)V"⟩, 13) := ⟨⟨by decide +kernel, by decide +kernel⟩, List.mem_of_getElem? (i := 181) (by decide +kernel), List.mem_of_getElem? (i := 733) (by decide +kernel), List.mem_of_getElem? (i := 734) (by decide +kernel)⟩
theorem lw_p25 : lw_okq (⟨"TwoAlike$Day", "leastToCome", "(II)I"⟩, 13) := ⟨⟨by decide +kernel, by decide +kernel⟩, List.mem_of_getElem? (i := 181) (by decide +kernel), List.mem_of_getElem? (i := 737) (by decide +kernel), List.mem_of_getElem? (i := 738) (by decide +kernel)⟩
theorem lw_p26 : lw_okq (⟨"TwoAlike$Day", "orderWith", "(IIII)V"⟩, 13) := ⟨⟨by decide +kernel, by decide +kernel⟩, List.mem_of_getElem? (i := 181) (by decide +kernel), List.mem_of_getElem? (i := 741) (by decide +kernel), List.mem_of_getElem? (i := 742) (by decide +kernel)⟩
theorem lw_p27 : lw_okq (⟨"TwoAlike$Wardrobe", "findClashes", "(II)V"⟩, 7) := ⟨⟨by decide +kernel, by decide +kernel⟩, List.mem_of_getElem? (i := 235) (by decide +kernel), List.mem_of_getElem? (i := 765) (by decide +kernel), List.mem_of_getElem? (i := 766) (by decide +kernel)⟩
theorem lw_p28 : lw_okq (⟨"TwoAlike$Wardrobe", "chooseFrom", "(II)V"⟩, 7) := ⟨⟨by decide +kernel, by decide +kernel⟩, List.mem_of_getElem? (i := 235) (by decide +kernel), List.mem_of_getElem? (i := 778) (by decide +kernel), List.mem_of_getElem? (i := 779) (by decide +kernel)⟩
theorem lw_p29 : lw_okq (⟨"TwoAlike$Wardrobe", "mustWear", "(I)I"⟩, 7) := ⟨⟨by decide +kernel, by decide +kernel⟩, List.mem_of_getElem? (i := 235) (by decide +kernel), List.mem_of_getElem? (i := 782) (by decide +kernel), List.mem_of_getElem? (i := 783) (by decide +kernel)⟩
theorem lw_p30 : lw_okq (⟨"TwoAlike$Wardrobe", "choose", "(III)V"⟩, 7) := ⟨⟨by decide +kernel, by decide +kernel⟩, List.mem_of_getElem? (i := 235) (by decide +kernel), List.mem_of_getElem? (i := 786) (by decide +kernel), List.mem_of_getElem? (i := 787) (by decide +kernel)⟩
theorem lw_p31 : lw_okq (⟨"TwoAlike$Wardrobe", "leavesFree", "(II)Z"⟩, 7) := ⟨⟨by decide +kernel, by decide +kernel⟩, List.mem_of_getElem? (i := 235) (by decide +kernel), List.mem_of_getElem? (i := 790) (by decide +kernel), List.mem_of_getElem? (i := 791) (by decide +kernel)⟩
def lw_privs_2 : List (MethodName × Nat) := [(⟨"TwoAlike$Law", "pop", "()I"⟩, 6), (⟨"TwoAlike$Law", "run", "(II)V"⟩, 6), (⟨"TwoAlike$Law", "push", "(I)V"⟩, 6), (⟨"TwoAlike$Day", "layWithout", "(I)V"⟩, 13), (⟨"TwoAlike$Day", "takeTurn", "(II)I"⟩, 13), (⟨"TwoAlike$Day", "stayAtHome", "(I)V"⟩, 13), (⟨"TwoAlike$Day", "shutMinutes", "(II)I"⟩, 13), (⟨"TwoAlike$Day", "orderFrom", "(III)V"⟩, 13), (⟨"TwoAlike$Day", "keepOrder", "(I)V"⟩, 13), (⟨"TwoAlike$Day", "leastToCome", "(II)I"⟩, 13), (⟨"TwoAlike$Day", "orderWith", "(IIII)V"⟩, 13), (⟨"TwoAlike$Wardrobe", "findClashes", "(II)V"⟩, 7), (⟨"TwoAlike$Wardrobe", "chooseFrom", "(II)V"⟩, 7), (⟨"TwoAlike$Wardrobe", "mustWear", "(I)I"⟩, 7), (⟨"TwoAlike$Wardrobe", "choose", "(III)V"⟩, 7), (⟨"TwoAlike$Wardrobe", "leavesFree", "(II)Z"⟩, 7)]
theorem lw_r2 : ∀ q ∈ lw_privs_2, lw_okq q := List.forall_mem_cons.mpr ⟨lw_p16, List.forall_mem_cons.mpr ⟨lw_p17, List.forall_mem_cons.mpr ⟨lw_p18, List.forall_mem_cons.mpr ⟨lw_p19, List.forall_mem_cons.mpr ⟨lw_p20, List.forall_mem_cons.mpr ⟨lw_p21, List.forall_mem_cons.mpr ⟨lw_p22, List.forall_mem_cons.mpr ⟨lw_p23, List.forall_mem_cons.mpr ⟨lw_p24, List.forall_mem_cons.mpr ⟨lw_p25, List.forall_mem_cons.mpr ⟨lw_p26, List.forall_mem_cons.mpr ⟨lw_p27, List.forall_mem_cons.mpr ⟨lw_p28, List.forall_mem_cons.mpr ⟨lw_p29, List.forall_mem_cons.mpr ⟨lw_p30, List.forall_mem_cons.mpr ⟨lw_p31, fun _ h => absurd h List.not_mem_nil⟩⟩⟩⟩⟩⟩⟩⟩⟩⟩⟩⟩⟩⟩⟩⟩
theorem lw_p32 : lw_okq (⟨"TwoAlike$Likeness", "isKind", "(I)Z"⟩, 3) := ⟨⟨by decide +kernel, by decide +kernel⟩, List.mem_of_getElem? (i := 163) (by decide +kernel), List.mem_of_getElem? (i := 816) (by decide +kernel), List.mem_of_getElem? (i := 817) (by decide +kernel)⟩
theorem lw_p33 : lw_okq (⟨"TwoAlike$Sightings", "firstTwoIn", "(I)I"⟩, 6) := ⟨⟨by decide +kernel, by decide +kernel⟩, List.mem_of_getElem? (i := 265) (by decide +kernel), List.mem_of_getElem? (i := 848) (by decide +kernel), List.mem_of_getElem? (i := 849) (by decide +kernel)⟩
theorem lw_p34 : lw_okq (⟨"TwoAlike$Sightings", "bar", "(III)Z"⟩, 6) := ⟨⟨by decide +kernel, by decide +kernel⟩, List.mem_of_getElem? (i := 265) (by decide +kernel), List.mem_of_getElem? (i := 885) (by decide +kernel), List.mem_of_getElem? (i := 886) (by decide +kernel)⟩
theorem lw_p35 : lw_okq (⟨"TwoAlike$Sightings", "shareOutFrom", "(II)V"⟩, 6) := ⟨⟨by decide +kernel, by decide +kernel⟩, List.mem_of_getElem? (i := 265) (by decide +kernel), List.mem_of_getElem? (i := 890) (by decide +kernel), List.mem_of_getElem? (i := 891) (by decide +kernel)⟩
theorem lw_p36 : lw_okq (⟨"TwoAlike$Sightings", "shareInto", "(III)V"⟩, 6) := ⟨⟨by decide +kernel, by decide +kernel⟩, List.mem_of_getElem? (i := 265) (by decide +kernel), List.mem_of_getElem? (i := 894) (by decide +kernel), List.mem_of_getElem? (i := 895) (by decide +kernel)⟩
theorem lw_p37 : lw_okq (⟨"TwoAlike$Sightings", "canLook", "(II)Z"⟩, 6) := ⟨⟨by decide +kernel, by decide +kernel⟩, List.mem_of_getElem? (i := 265) (by decide +kernel), List.mem_of_getElem? (i := 906) (by decide +kernel), List.mem_of_getElem? (i := 907) (by decide +kernel)⟩
theorem lw_p38 : lw_okq (⟨"TwoAlike$Twins", "own", "(III)I"⟩, 5) := ⟨⟨by decide +kernel, by decide +kernel⟩, List.mem_of_getElem? (i := 319) (by decide +kernel), List.mem_of_getElem? (i := 990) (by decide +kernel), List.mem_of_getElem? (i := 991) (by decide +kernel)⟩
theorem lw_p39 : lw_okq (⟨"TwoAlike$Twins", "from", "(IIII)I"⟩, 5) := ⟨⟨by decide +kernel, by decide +kernel⟩, List.mem_of_getElem? (i := 319) (by decide +kernel), List.mem_of_getElem? (i := 994) (by decide +kernel), List.mem_of_getElem? (i := 995) (by decide +kernel)⟩
theorem lw_p40 : lw_okq (⟨"TwoAlike$Twins", "run", "(III)I"⟩, 5) := ⟨⟨by decide +kernel, by decide +kernel⟩, List.mem_of_getElem? (i := 319) (by decide +kernel), List.mem_of_getElem? (i := 1002) (by decide +kernel), List.mem_of_getElem? (i := 1003) (by decide +kernel)⟩
theorem lw_p41 : lw_okq (⟨"TwoAlike$Shelves", "reaches", "(III)Z"⟩, 5) := ⟨⟨by decide +kernel, by decide +kernel⟩, List.mem_of_getElem? (i := 345) (by decide +kernel), List.mem_of_getElem? (i := 1066) (by decide +kernel), List.mem_of_getElem? (i := 1067) (by decide +kernel)⟩
theorem lw_p42 : lw_okq (⟨"TwoAlikeModel", "adds", "(II)V"⟩, 54) := ⟨⟨by decide +kernel, by decide +kernel⟩, List.mem_of_getElem? (i := 1092) (by decide +kernel), List.mem_of_getElem? (i := 1280) (by decide +kernel), List.mem_of_getElem? (i := 1281) (by decide +kernel)⟩
theorem lw_p43 : lw_okq (⟨"TwoAlikeModel", "isPerson", "(I)Z"⟩, 54) := ⟨⟨by decide +kernel, by decide +kernel⟩, List.mem_of_getElem? (i := 1092) (by decide +kernel), List.mem_of_getElem? (i := 1297) (by decide +kernel), List.mem_of_getElem? (i := 1298) (by decide +kernel)⟩
theorem lw_p44 : lw_okq (⟨"TwoAlikeModel", "becomes", "(II)I"⟩, 54) := ⟨⟨by decide +kernel, by decide +kernel⟩, List.mem_of_getElem? (i := 1092) (by decide +kernel), List.mem_of_getElem? (i := 1318) (by decide +kernel), List.mem_of_getElem? (i := 1319) (by decide +kernel)⟩
theorem lw_p45 : lw_okq (⟨"TwoAlikeModel", "ofPerson", "(II)I"⟩, 54) := ⟨⟨by decide +kernel, by decide +kernel⟩, List.mem_of_getElem? (i := 1092) (by decide +kernel), List.mem_of_getElem? (i := 1327) (by decide +kernel), List.mem_of_getElem? (i := 1328) (by decide +kernel)⟩
theorem lw_p46 : lw_okq (⟨"TwoAlikeModel", "seenOf", "(I)I"⟩, 54) := ⟨⟨by decide +kernel, by decide +kernel⟩, List.mem_of_getElem? (i := 1092) (by decide +kernel), List.mem_of_getElem? (i := 1331) (by decide +kernel), List.mem_of_getElem? (i := 1332) (by decide +kernel)⟩
theorem lw_p47 : lw_okq (⟨"TwoAlikeModel", "minutesOf", "(I)I"⟩, 54) := ⟨⟨by decide +kernel, by decide +kernel⟩, List.mem_of_getElem? (i := 1092) (by decide +kernel), List.mem_of_getElem? (i := 1338) (by decide +kernel), List.mem_of_getElem? (i := 1339) (by decide +kernel)⟩
def lw_privs_3 : List (MethodName × Nat) := [(⟨"TwoAlike$Likeness", "isKind", "(I)Z"⟩, 3), (⟨"TwoAlike$Sightings", "firstTwoIn", "(I)I"⟩, 6), (⟨"TwoAlike$Sightings", "bar", "(III)Z"⟩, 6), (⟨"TwoAlike$Sightings", "shareOutFrom", "(II)V"⟩, 6), (⟨"TwoAlike$Sightings", "shareInto", "(III)V"⟩, 6), (⟨"TwoAlike$Sightings", "canLook", "(II)Z"⟩, 6), (⟨"TwoAlike$Twins", "own", "(III)I"⟩, 5), (⟨"TwoAlike$Twins", "from", "(IIII)I"⟩, 5), (⟨"TwoAlike$Twins", "run", "(III)I"⟩, 5), (⟨"TwoAlike$Shelves", "reaches", "(III)Z"⟩, 5), (⟨"TwoAlikeModel", "adds", "(II)V"⟩, 54), (⟨"TwoAlikeModel", "isPerson", "(I)Z"⟩, 54), (⟨"TwoAlikeModel", "becomes", "(II)I"⟩, 54), (⟨"TwoAlikeModel", "ofPerson", "(II)I"⟩, 54), (⟨"TwoAlikeModel", "seenOf", "(I)I"⟩, 54), (⟨"TwoAlikeModel", "minutesOf", "(I)I"⟩, 54)]
theorem lw_r3 : ∀ q ∈ lw_privs_3, lw_okq q := List.forall_mem_cons.mpr ⟨lw_p32, List.forall_mem_cons.mpr ⟨lw_p33, List.forall_mem_cons.mpr ⟨lw_p34, List.forall_mem_cons.mpr ⟨lw_p35, List.forall_mem_cons.mpr ⟨lw_p36, List.forall_mem_cons.mpr ⟨lw_p37, List.forall_mem_cons.mpr ⟨lw_p38, List.forall_mem_cons.mpr ⟨lw_p39, List.forall_mem_cons.mpr ⟨lw_p40, List.forall_mem_cons.mpr ⟨lw_p41, List.forall_mem_cons.mpr ⟨lw_p42, List.forall_mem_cons.mpr ⟨lw_p43, List.forall_mem_cons.mpr ⟨lw_p44, List.forall_mem_cons.mpr ⟨lw_p45, List.forall_mem_cons.mpr ⟨lw_p46, List.forall_mem_cons.mpr ⟨lw_p47, fun _ h => absurd h List.not_mem_nil⟩⟩⟩⟩⟩⟩⟩⟩⟩⟩⟩⟩⟩⟩⟩⟩
theorem lw_p48 : lw_okq (⟨"TwoAlikeModel", "workOut", "(II)I"⟩, 54) := ⟨⟨by decide +kernel, by decide +kernel⟩, List.mem_of_getElem? (i := 1092) (by decide +kernel), List.mem_of_getElem? (i := 1354) (by decide +kernel), List.mem_of_getElem? (i := 1355) (by decide +kernel)⟩
theorem lw_p49 : lw_okq (⟨"TwoAlikeModel", "either", "()I"⟩, 54) := ⟨⟨by decide +kernel, by decide +kernel⟩, List.mem_of_getElem? (i := 1092) (by decide +kernel), List.mem_of_getElem? (i := 1358) (by decide +kernel), List.mem_of_getElem? (i := 1359) (by decide +kernel)⟩
theorem lw_p50 : lw_okq (⟨"TwoAlikeModel", "both", "()I"⟩, 54) := ⟨⟨by decide +kernel, by decide +kernel⟩, List.mem_of_getElem? (i := 1092) (by decide +kernel), List.mem_of_getElem? (i := 1362) (by decide +kernel), List.mem_of_getElem? (i := 1363) (by decide +kernel)⟩
theorem lw_p51 : lw_okq (⟨"TwoAlikeModel", "compared", "()I"⟩, 54) := ⟨⟨by decide +kernel, by decide +kernel⟩, List.mem_of_getElem? (i := 1092) (by decide +kernel), List.mem_of_getElem? (i := 1366) (by decide +kernel), List.mem_of_getElem? (i := 1367) (by decide +kernel)⟩
theorem lw_p52 : lw_okq (⟨"TwoAlikeModel", "sums", "()I"⟩, 54) := ⟨⟨by decide +kernel, by decide +kernel⟩, List.mem_of_getElem? (i := 1092) (by decide +kernel), List.mem_of_getElem? (i := 1370) (by decide +kernel), List.mem_of_getElem? (i := 1371) (by decide +kernel)⟩
theorem lw_p53 : lw_okq (⟨"TwoAlikeModel", "product", "()I"⟩, 54) := ⟨⟨by decide +kernel, by decide +kernel⟩, List.mem_of_getElem? (i := 1092) (by decide +kernel), List.mem_of_getElem? (i := 1374) (by decide +kernel), List.mem_of_getElem? (i := 1375) (by decide +kernel)⟩
theorem lw_p54 : lw_okq (⟨"TwoAlikeModel", "one", "()I"⟩, 54) := ⟨⟨by decide +kernel, by decide +kernel⟩, List.mem_of_getElem? (i := 1092) (by decide +kernel), List.mem_of_getElem? (i := 1378) (by decide +kernel), List.mem_of_getElem? (i := 1379) (by decide +kernel)⟩
theorem lw_p55 : lw_okq (⟨"TwoAlikeModel", "byteAt", "()I"⟩, 54) := ⟨⟨by decide +kernel, by decide +kernel⟩, List.mem_of_getElem? (i := 1092) (by decide +kernel), List.mem_of_getElem? (i := 1382) (by decide +kernel), List.mem_of_getElem? (i := 1383) (by decide +kernel)⟩
theorem lw_p56 : lw_okq (⟨"TwoAlikeModel", "wrong", "()I"⟩, 54) := ⟨⟨by decide +kernel, by decide +kernel⟩, List.mem_of_getElem? (i := 1092) (by decide +kernel), List.mem_of_getElem? (i := 1386) (by decide +kernel), List.mem_of_getElem? (i := 1387) (by decide +kernel)⟩
theorem lw_p57 : lw_okq (⟨"TwoAlikeModel", "takes", "(I)Z"⟩, 54) := ⟨⟨by decide +kernel, by decide +kernel⟩, List.mem_of_getElem? (i := 1092) (by decide +kernel), List.mem_of_getElem? (i := 1390) (by decide +kernel), List.mem_of_getElem? (i := 1391) (by decide +kernel)⟩
theorem lw_p58 : lw_okq (⟨"TwoAlikeModel", "isPq", "(I)Z"⟩, 54) := ⟨⟨by decide +kernel, by decide +kernel⟩, List.mem_of_getElem? (i := 1092) (by decide +kernel), List.mem_of_getElem? (i := 1401) (by decide +kernel), List.mem_of_getElem? (i := 1402) (by decide +kernel)⟩
theorem lw_p59 : lw_okq (⟨"TwoAlikeModel", "isAlike", "(II)Z"⟩, 54) := ⟨⟨by decide +kernel, by decide +kernel⟩, List.mem_of_getElem? (i := 1092) (by decide +kernel), List.mem_of_getElem? (i := 1405) (by decide +kernel), List.mem_of_getElem? (i := 1406) (by decide +kernel)⟩
theorem lw_p60 : lw_okq (⟨"TwoAlikeModel", "areAlike", "(IIII)Z"⟩, 54) := ⟨⟨by decide +kernel, by decide +kernel⟩, List.mem_of_getElem? (i := 1092) (by decide +kernel), List.mem_of_getElem? (i := 1412) (by decide +kernel), List.mem_of_getElem? (i := 1413) (by decide +kernel)⟩
theorem lw_p61 : lw_okq (⟨"TwoAlikeModel", "plansNow", "(I)V"⟩, 54) := ⟨⟨by decide +kernel, by decide +kernel⟩, List.mem_of_getElem? (i := 1092) (by decide +kernel), List.mem_of_getElem? (i := 1423) (by decide +kernel), List.mem_of_getElem? (i := 1424) (by decide +kernel)⟩
theorem lw_p62 : lw_okq (⟨"TwoAlikeModel", "asksLikes", "()V"⟩, 54) := ⟨⟨by decide +kernel, by decide +kernel⟩, List.mem_of_getElem? (i := 1092) (by decide +kernel), List.mem_of_getElem? (i := 1427) (by decide +kernel), List.mem_of_getElem? (i := 1428) (by decide +kernel)⟩
theorem lw_p63 : lw_okq (⟨"TwoAlikeModel", "plansOne", "(I)V"⟩, 54) := ⟨⟨by decide +kernel, by decide +kernel⟩, List.mem_of_getElem? (i := 1092) (by decide +kernel), List.mem_of_getElem? (i := 1431) (by decide +kernel), List.mem_of_getElem? (i := 1432) (by decide +kernel)⟩
def lw_privs_4 : List (MethodName × Nat) := [(⟨"TwoAlikeModel", "workOut", "(II)I"⟩, 54), (⟨"TwoAlikeModel", "either", "()I"⟩, 54), (⟨"TwoAlikeModel", "both", "()I"⟩, 54), (⟨"TwoAlikeModel", "compared", "()I"⟩, 54), (⟨"TwoAlikeModel", "sums", "()I"⟩, 54), (⟨"TwoAlikeModel", "product", "()I"⟩, 54), (⟨"TwoAlikeModel", "one", "()I"⟩, 54), (⟨"TwoAlikeModel", "byteAt", "()I"⟩, 54), (⟨"TwoAlikeModel", "wrong", "()I"⟩, 54), (⟨"TwoAlikeModel", "takes", "(I)Z"⟩, 54), (⟨"TwoAlikeModel", "isPq", "(I)Z"⟩, 54), (⟨"TwoAlikeModel", "isAlike", "(II)Z"⟩, 54), (⟨"TwoAlikeModel", "areAlike", "(IIII)Z"⟩, 54), (⟨"TwoAlikeModel", "plansNow", "(I)V"⟩, 54), (⟨"TwoAlikeModel", "asksLikes", "()V"⟩, 54), (⟨"TwoAlikeModel", "plansOne", "(I)V"⟩, 54)]
theorem lw_r4 : ∀ q ∈ lw_privs_4, lw_okq q := List.forall_mem_cons.mpr ⟨lw_p48, List.forall_mem_cons.mpr ⟨lw_p49, List.forall_mem_cons.mpr ⟨lw_p50, List.forall_mem_cons.mpr ⟨lw_p51, List.forall_mem_cons.mpr ⟨lw_p52, List.forall_mem_cons.mpr ⟨lw_p53, List.forall_mem_cons.mpr ⟨lw_p54, List.forall_mem_cons.mpr ⟨lw_p55, List.forall_mem_cons.mpr ⟨lw_p56, List.forall_mem_cons.mpr ⟨lw_p57, List.forall_mem_cons.mpr ⟨lw_p58, List.forall_mem_cons.mpr ⟨lw_p59, List.forall_mem_cons.mpr ⟨lw_p60, List.forall_mem_cons.mpr ⟨lw_p61, List.forall_mem_cons.mpr ⟨lw_p62, List.forall_mem_cons.mpr ⟨lw_p63, fun _ h => absurd h List.not_mem_nil⟩⟩⟩⟩⟩⟩⟩⟩⟩⟩⟩⟩⟩⟩⟩⟩
theorem lw_p64 : lw_okq (⟨"TwoAlikeModel", "begins1", "(III)I"⟩, 54) := ⟨⟨by decide +kernel, by decide +kernel⟩, List.mem_of_getElem? (i := 1092) (by decide +kernel), List.mem_of_getElem? (i := 1435) (by decide +kernel), List.mem_of_getElem? (i := 1436) (by decide +kernel)⟩
theorem lw_p65 : lw_okq (⟨"TwoAlikeModel", "isShut", "(III)Z"⟩, 54) := ⟨⟨by decide +kernel, by decide +kernel⟩, List.mem_of_getElem? (i := 1092) (by decide +kernel), List.mem_of_getElem? (i := 1439) (by decide +kernel), List.mem_of_getElem? (i := 1440) (by decide +kernel)⟩
theorem lw_p66 : lw_okq (⟨"TwoAlikeModel", "allWaited", "()I"⟩, 54) := ⟨⟨by decide +kernel, by decide +kernel⟩, List.mem_of_getElem? (i := 1092) (by decide +kernel), List.mem_of_getElem? (i := 1443) (by decide +kernel), List.mem_of_getElem? (i := 1444) (by decide +kernel)⟩
theorem lw_p67 : lw_okq (⟨"TwoAlikeModel", "costOf", "(I)I"⟩, 54) := ⟨⟨by decide +kernel, by decide +kernel⟩, List.mem_of_getElem? (i := 1092) (by decide +kernel), List.mem_of_getElem? (i := 1447) (by decide +kernel), List.mem_of_getElem? (i := 1448) (by decide +kernel)⟩
theorem lw_p68 : lw_okq (⟨"TwoAlikeModel", "ordersOn", "(III)V"⟩, 54) := ⟨⟨by decide +kernel, by decide +kernel⟩, List.mem_of_getElem? (i := 1092) (by decide +kernel), List.mem_of_getElem? (i := 1464) (by decide +kernel), List.mem_of_getElem? (i := 1465) (by decide +kernel)⟩
theorem lw_p69 : lw_okq (⟨"TwoAlikeModel", "asksHats", "()V"⟩, 54) := ⟨⟨by decide +kernel, by decide +kernel⟩, List.mem_of_getElem? (i := 1092) (by decide +kernel), List.mem_of_getElem? (i := 1480) (by decide +kernel), List.mem_of_getElem? (i := 1481) (by decide +kernel)⟩
theorem lw_p70 : lw_okq (⟨"TwoAlikeModel", "wearsFrom", "(II)Z"⟩, 54) := ⟨⟨by decide +kernel, by decide +kernel⟩, List.mem_of_getElem? (i := 1092) (by decide +kernel), List.mem_of_getElem? (i := 1487) (by decide +kernel), List.mem_of_getElem? (i := 1488) (by decide +kernel)⟩
theorem lw_p71 : lw_okq (⟨"TwoAlikeModel", "mayWear", "(II)Z"⟩, 54) := ⟨⟨by decide +kernel, by decide +kernel⟩, List.mem_of_getElem? (i := 1092) (by decide +kernel), List.mem_of_getElem? (i := 1491) (by decide +kernel), List.mem_of_getElem? (i := 1492) (by decide +kernel)⟩
theorem lw_p72 : lw_okq (⟨"TwoAlikeModel", "isKind", "(I)Z"⟩, 54) := ⟨⟨by decide +kernel, by decide +kernel⟩, List.mem_of_getElem? (i := 1092) (by decide +kernel), List.mem_of_getElem? (i := 1503) (by decide +kernel), List.mem_of_getElem? (i := 1504) (by decide +kernel)⟩
theorem lw_p73 : lw_okq (⟨"TwoAlikeModel", "doBar", "(III)Z"⟩, 54) := ⟨⟨by decide +kernel, by decide +kernel⟩, List.mem_of_getElem? (i := 1092) (by decide +kernel), List.mem_of_getElem? (i := 1534) (by decide +kernel), List.mem_of_getElem? (i := 1535) (by decide +kernel)⟩
theorem lw_p74 : lw_okq (⟨"TwoAlikeModel", "isOne", "(I)Z"⟩, 54) := ⟨⟨by decide +kernel, by decide +kernel⟩, List.mem_of_getElem? (i := 1092) (by decide +kernel), List.mem_of_getElem? (i := 1538) (by decide +kernel), List.mem_of_getElem? (i := 1539) (by decide +kernel)⟩
theorem lw_p75 : lw_okq (⟨"TwoAlikeModel", "whoIs", "(I)I"⟩, 54) := ⟨⟨by decide +kernel, by decide +kernel⟩, List.mem_of_getElem? (i := 1092) (by decide +kernel), List.mem_of_getElem? (i := 1546) (by decide +kernel), List.mem_of_getElem? (i := 1547) (by decide +kernel)⟩
theorem lw_p76 : lw_okq (⟨"TwoAlikeModel", "canBe", "(II)Z"⟩, 54) := ⟨⟨by decide +kernel, by decide +kernel⟩, List.mem_of_getElem? (i := 1092) (by decide +kernel), List.mem_of_getElem? (i := 1550) (by decide +kernel), List.mem_of_getElem? (i := 1551) (by decide +kernel)⟩
theorem lw_p77 : lw_okq (⟨"TwoAlikeModel", "isBody", "(I)Z"⟩, 54) := ⟨⟨by decide +kernel, by decide +kernel⟩, List.mem_of_getElem? (i := 1092) (by decide +kernel), List.mem_of_getElem? (i := 1583) (by decide +kernel), List.mem_of_getElem? (i := 1584) (by decide +kernel)⟩
theorem lw_p78 : lw_okq (⟨"TwoAlikeModel", "looksAs", "(II)I"⟩, 54) := ⟨⟨by decide +kernel, by decide +kernel⟩, List.mem_of_getElem? (i := 1092) (by decide +kernel), List.mem_of_getElem? (i := 1587) (by decide +kernel), List.mem_of_getElem? (i := 1588) (by decide +kernel)⟩
theorem lw_p79 : lw_okq (⟨"TwoAlikeModel", "begins", "(I)V"⟩, 54) := ⟨⟨by decide +kernel, by decide +kernel⟩, List.mem_of_getElem? (i := 1092) (by decide +kernel), List.mem_of_getElem? (i := 1591) (by decide +kernel), List.mem_of_getElem? (i := 1592) (by decide +kernel)⟩
def lw_privs_5 : List (MethodName × Nat) := [(⟨"TwoAlikeModel", "begins1", "(III)I"⟩, 54), (⟨"TwoAlikeModel", "isShut", "(III)Z"⟩, 54), (⟨"TwoAlikeModel", "allWaited", "()I"⟩, 54), (⟨"TwoAlikeModel", "costOf", "(I)I"⟩, 54), (⟨"TwoAlikeModel", "ordersOn", "(III)V"⟩, 54), (⟨"TwoAlikeModel", "asksHats", "()V"⟩, 54), (⟨"TwoAlikeModel", "wearsFrom", "(II)Z"⟩, 54), (⟨"TwoAlikeModel", "mayWear", "(II)Z"⟩, 54), (⟨"TwoAlikeModel", "isKind", "(I)Z"⟩, 54), (⟨"TwoAlikeModel", "doBar", "(III)Z"⟩, 54), (⟨"TwoAlikeModel", "isOne", "(I)Z"⟩, 54), (⟨"TwoAlikeModel", "whoIs", "(I)I"⟩, 54), (⟨"TwoAlikeModel", "canBe", "(II)Z"⟩, 54), (⟨"TwoAlikeModel", "isBody", "(I)Z"⟩, 54), (⟨"TwoAlikeModel", "looksAs", "(II)I"⟩, 54), (⟨"TwoAlikeModel", "begins", "(I)V"⟩, 54)]
theorem lw_r5 : ∀ q ∈ lw_privs_5, lw_okq q := List.forall_mem_cons.mpr ⟨lw_p64, List.forall_mem_cons.mpr ⟨lw_p65, List.forall_mem_cons.mpr ⟨lw_p66, List.forall_mem_cons.mpr ⟨lw_p67, List.forall_mem_cons.mpr ⟨lw_p68, List.forall_mem_cons.mpr ⟨lw_p69, List.forall_mem_cons.mpr ⟨lw_p70, List.forall_mem_cons.mpr ⟨lw_p71, List.forall_mem_cons.mpr ⟨lw_p72, List.forall_mem_cons.mpr ⟨lw_p73, List.forall_mem_cons.mpr ⟨lw_p74, List.forall_mem_cons.mpr ⟨lw_p75, List.forall_mem_cons.mpr ⟨lw_p76, List.forall_mem_cons.mpr ⟨lw_p77, List.forall_mem_cons.mpr ⟨lw_p78, List.forall_mem_cons.mpr ⟨lw_p79, fun _ h => absurd h List.not_mem_nil⟩⟩⟩⟩⟩⟩⟩⟩⟩⟩⟩⟩⟩⟩⟩⟩
theorem lw_p80 : lw_okq (⟨"TwoAlikeModel", "walksAs", "(II)I"⟩, 54) := ⟨⟨by decide +kernel, by decide +kernel⟩, List.mem_of_getElem? (i := 1092) (by decide +kernel), List.mem_of_getElem? (i := 1595) (by decide +kernel), List.mem_of_getElem? (i := 1596) (by decide +kernel)⟩
theorem lw_p81 : lw_okq (⟨"TwoAlikeModel", "waitsAs", "(II)I"⟩, 54) := ⟨⟨by decide +kernel, by decide +kernel⟩, List.mem_of_getElem? (i := 1092) (by decide +kernel), List.mem_of_getElem? (i := 1599) (by decide +kernel), List.mem_of_getElem? (i := 1600) (by decide +kernel)⟩
theorem lw_p82 : lw_okq (⟨"TwoAlikeModel", "tellsAs", "(II)I"⟩, 54) := ⟨⟨by decide +kernel, by decide +kernel⟩, List.mem_of_getElem? (i := 1092) (by decide +kernel), List.mem_of_getElem? (i := 1603) (by decide +kernel), List.mem_of_getElem? (i := 1604) (by decide +kernel)⟩
theorem lw_p83 : lw_okq (⟨"TwoAlikeModel", "refusal", "(II)I"⟩, 54) := ⟨⟨by decide +kernel, by decide +kernel⟩, List.mem_of_getElem? (i := 1092) (by decide +kernel), List.mem_of_getElem? (i := 1623) (by decide +kernel), List.mem_of_getElem? (i := 1624) (by decide +kernel)⟩
theorem lw_p84 : lw_okq (⟨"TwoAlikeModel", "kindOf", "(I)I"⟩, 54) := ⟨⟨by decide +kernel, by decide +kernel⟩, List.mem_of_getElem? (i := 1092) (by decide +kernel), List.mem_of_getElem? (i := 1643) (by decide +kernel), List.mem_of_getElem? (i := 1644) (by decide +kernel)⟩
theorem lw_p85 : lw_okq (⟨"TwoAlikeModel", "allErrands", "()I"⟩, 54) := ⟨⟨by decide +kernel, by decide +kernel⟩, List.mem_of_getElem? (i := 1092) (by decide +kernel), List.mem_of_getElem? (i := 1654) (by decide +kernel), List.mem_of_getElem? (i := 1655) (by decide +kernel)⟩
def lw_privs_6 : List (MethodName × Nat) := [(⟨"TwoAlikeModel", "walksAs", "(II)I"⟩, 54), (⟨"TwoAlikeModel", "waitsAs", "(II)I"⟩, 54), (⟨"TwoAlikeModel", "tellsAs", "(II)I"⟩, 54), (⟨"TwoAlikeModel", "refusal", "(II)I"⟩, 54), (⟨"TwoAlikeModel", "kindOf", "(I)I"⟩, 54), (⟨"TwoAlikeModel", "allErrands", "()I"⟩, 54)]
theorem lw_r6 : ∀ q ∈ lw_privs_6, lw_okq q := List.forall_mem_cons.mpr ⟨lw_p80, List.forall_mem_cons.mpr ⟨lw_p81, List.forall_mem_cons.mpr ⟨lw_p82, List.forall_mem_cons.mpr ⟨lw_p83, List.forall_mem_cons.mpr ⟨lw_p84, List.forall_mem_cons.mpr ⟨lw_p85, fun _ h => absurd h List.not_mem_nil⟩⟩⟩⟩⟩⟩
def lw_privs : List (MethodName × Nat) := lw_privs_1 ++ (lw_privs_2 ++ (lw_privs_3 ++ (lw_privs_4 ++ (lw_privs_5 ++ (lw_privs_6)))))
def lw_tbl : List Cond := k2_sels lw_privs ++ tables_1
theorem lw_privs_ok : ∀ q ∈ lw_privs, lw_okq q := by
  show ∀ q ∈ lw_privs_1 ++ (lw_privs_2 ++ (lw_privs_3 ++ (lw_privs_4 ++ (lw_privs_5 ++ (lw_privs_6))))), lw_okq q
  exact List.forall_mem_append.mpr ⟨lw_r1, List.forall_mem_append.mpr ⟨lw_r2, List.forall_mem_append.mpr ⟨lw_r3, List.forall_mem_append.mpr ⟨lw_r4, List.forall_mem_append.mpr ⟨lw_r5, lw_r6⟩⟩⟩⟩⟩
-- ===== end of PART A; then your names; then what follows =====
def xR : List String := ["TwoAlike$Changes", "TwoAlike$Crowd", "TwoAlike$Day", "TwoAlike$Law", "TwoAlike$Likeness", "TwoAlike$Scene", "TwoAlike$Shelves", "TwoAlike$Sightings", "TwoAlike$Tape", "TwoAlike$Twins", "TwoAlike$Wardrobe", "TwoAlike", "TwoAlikeModel", "java/lang/Integer", "java/lang/Math", "TwoAlikeLaw"]
def TX0 : u_T := fun k => match k with
  | 0 => ("TwoAlike$Changes", "crowd", "LTwoAlike$Crowd;", true)
  | 1 => ("TwoAlike$Changes", "numbers", "[I", true)
  | 2 => ("TwoAlike$Changes", "whats", "[I", true)
  | 3 => ("TwoAlike$Changes", "befores", "[I", true)
  | 4 => ("TwoAlike$Changes", "afters", "[I", true)
  | 5 => ("TwoAlike$Changes", "made", "I", false)
  | _ => ("TwoAlike$Changes", "all", "I", false)
def tyX0 : Nat → FieldType := fun k => match k with
  | 0 => .object "TwoAlike$Crowd"
  | 1 => .array .int
  | 2 => .array .int
  | 3 => .array .int
  | 4 => .array .int
  | 5 => .int
  | _ => .int
def TX1 : u_T := fun k => match k with
  | 0 => ("TwoAlike$Crowd", "scene", "LTwoAlike$Scene;", true)
  | 1 => ("TwoAlike$Crowd", "looks", "[I", true)
  | 2 => ("TwoAlike$Crowd", "mayChange", "[I", true)
  | 3 => ("TwoAlike$Crowd", "drift", "[I", true)
  | 4 => ("TwoAlike$Crowd", "errands", "[I", true)
  | 5 => ("TwoAlike$Crowd", "errandStreets", "[I", true)
  | 6 => ("TwoAlike$Crowd", "errandMinutes", "[I", true)
  | 7 => ("TwoAlike$Crowd", "size", "I", false)
  | 8 => ("TwoAlike$Crowd", "ease", "I", false)
  | _ => ("TwoAlike$Crowd", "month", "I", false)
def tyX1 : Nat → FieldType := fun k => match k with
  | 0 => .object "TwoAlike$Scene"
  | 1 => .array .int
  | 2 => .array .int
  | 3 => .array .int
  | 4 => .array .int
  | 5 => .array .int
  | 6 => .array .int
  | 7 => .int
  | 8 => .int
  | _ => .int
def TX2 : u_T := fun k => match k with
  | 0 => ("TwoAlike$Day", "crowd", "LTwoAlike$Crowd;", true)
  | 1 => ("TwoAlike$Day", "likeness", "LTwoAlike$Likeness;", true)
  | 2 => ("TwoAlike$Day", "out", "[I", true)
  | 3 => ("TwoAlike$Day", "first", "[I", true)
  | 4 => ("TwoAlike$Day", "last", "[I", true)
  | 5 => ("TwoAlike$Day", "waits", "[I", true)
  | 6 => ("TwoAlike$Day", "barred", "[Z", true)
  | 7 => ("TwoAlike$Day", "order", "[I", true)
  | 8 => ("TwoAlike$Day", "bestOrder", "[I", true)
  | 9 => ("TwoAlike$Day", "leastSum", "I", false)
  | 10 => ("TwoAlike$Day", "ledFirst", "[I", true)
  | 11 => ("TwoAlike$Day", "ledLast", "[I", true)
  | _ => ("TwoAlike$Day", "ledPeople", "I", false)
def tyX2 : Nat → FieldType := fun k => match k with
  | 0 => .object "TwoAlike$Crowd"
  | 1 => .object "TwoAlike$Likeness"
  | 2 => .array .int
  | 3 => .array .int
  | 4 => .array .int
  | 5 => .array .int
  | 6 => .array .boolean
  | 7 => .array .int
  | 8 => .array .int
  | 9 => .int
  | 10 => .array .int
  | 11 => .array .int
  | _ => .int
def TX3 : u_T := fun k => match k with
  | 0 => ("TwoAlike$Law", "signs", "[I", true)
  | 1 => ("TwoAlike$Law", "values", "[I", true)
  | 2 => ("TwoAlike$Law", "length", "I", false)
  | 3 => ("TwoAlike$Law", "stack", "[I", true)
  | 4 => ("TwoAlike$Law", "top", "I", false)
  | _ => ("TwoAlike$Law", "names", "[I", true)
def tyX3 : Nat → FieldType := fun k => match k with
  | 0 => .array .int
  | 1 => .array .int
  | 2 => .int
  | 3 => .array .int
  | 4 => .int
  | _ => .array .int
def TX4 : u_T := fun k => match k with
  | 0 => ("TwoAlike$Likeness", "crowd", "LTwoAlike$Crowd;", true)
  | 1 => ("TwoAlike$Likeness", "theLaw", "LTwoAlike$Law;", true)
  | _ => ("TwoAlike$Likeness", "likes", "[I", true)
def tyX4 : Nat → FieldType := fun k => match k with
  | 0 => .object "TwoAlike$Crowd"
  | 1 => .object "TwoAlike$Law"
  | _ => .array .int
def TX5 : u_T := fun k => match k with
  | 0 => ("TwoAlike$Scene", "hats", "[I", true)
  | 1 => ("TwoAlike$Scene", "streets", "[I", true)
  | 2 => ("TwoAlike$Scene", "sightMinutes", "[I", true)
  | 3 => ("TwoAlike$Scene", "sightStreets", "[I", true)
  | 4 => ("TwoAlike$Scene", "sightLooks", "[I", true)
  | _ => ("TwoAlike$Scene", "sights", "I", false)
def tyX5 : Nat → FieldType := fun k => match k with
  | 0 => .array .int
  | 1 => .array .int
  | 2 => .array .int
  | 3 => .array .int
  | 4 => .array .int
  | _ => .int
def TX6 : u_T := fun k => match k with
  | 0 => ("TwoAlike$Shelves", "holds", "[I", true)
  | 1 => ("TwoAlike$Shelves", "twins", "[I", true)
  | 2 => ("TwoAlike$Shelves", "sorts", "[I", true)
  | 3 => ("TwoAlike$Shelves", "sizes", "[I", true)
  | _ => ("TwoAlike$Shelves", "elements", "[J", true)
def tyX6 : Nat → FieldType := fun k => match k with
  | 0 => .array .int
  | 1 => .array .int
  | 2 => .array .int
  | 3 => .array .int
  | _ => .array .long
def TX7 : u_T := fun k => match k with
  | 0 => ("TwoAlike$Sightings", "scene", "LTwoAlike$Scene;", true)
  | 1 => ("TwoAlike$Sightings", "crowd", "LTwoAlike$Crowd;", true)
  | 2 => ("TwoAlike$Sightings", "likeness", "LTwoAlike$Likeness;", true)
  | 3 => ("TwoAlike$Sightings", "barring", "[I", true)
  | 4 => ("TwoAlike$Sightings", "sets", "[I", true)
  | _ => ("TwoAlike$Sightings", "fewest", "I", false)
def tyX7 : Nat → FieldType := fun k => match k with
  | 0 => .object "TwoAlike$Scene"
  | 1 => .object "TwoAlike$Crowd"
  | 2 => .object "TwoAlike$Likeness"
  | 3 => .array .int
  | 4 => .array .int
  | _ => .int
def TX8 : u_T := fun k => match k with
  | 0 => ("TwoAlike$Tape", "draft", "LTwoAlike$Law;", true)
  | 1 => ("TwoAlike$Tape", "letters", "[I", true)
  | 2 => ("TwoAlike$Tape", "length", "I", false)
  | _ => ("TwoAlike$Tape", "at", "I", false)
def tyX8 : Nat → FieldType := fun k => match k with
  | 0 => .object "TwoAlike$Law"
  | 1 => .array .int
  | 2 => .int
  | _ => .int
def TX9 : u_T := fun k => match k with
  | 0 => ("TwoAlike$Twins", "kindOf", "[I", true)
  | 1 => ("TwoAlike$Twins", "size", "I", false)
  | 2 => ("TwoAlike$Twins", "began", "[I", true)
  | 3 => ("TwoAlike$Twins", "ran", "I", false)
  | _ => ("TwoAlike$Twins", "actor", "I", false)
def tyX9 : Nat → FieldType := fun k => match k with
  | 0 => .array .int
  | 1 => .int
  | 2 => .array .int
  | 3 => .int
  | _ => .int
def TX10 : u_T := fun k => match k with
  | 0 => ("TwoAlike$Wardrobe", "crowd", "LTwoAlike$Crowd;", true)
  | 1 => ("TwoAlike$Wardrobe", "likeness", "LTwoAlike$Likeness;", true)
  | 2 => ("TwoAlike$Wardrobe", "clashes", "[I", true)
  | 3 => ("TwoAlike$Wardrobe", "free", "[I", true)
  | 4 => ("TwoAlike$Wardrobe", "hats", "[I", true)
  | 5 => ("TwoAlike$Wardrobe", "fewestHats", "[I", true)
  | _ => ("TwoAlike$Wardrobe", "fewest", "I", false)
def tyX10 : Nat → FieldType := fun k => match k with
  | 0 => .object "TwoAlike$Crowd"
  | 1 => .object "TwoAlike$Likeness"
  | 2 => .array .int
  | 3 => .array .int
  | 4 => .array .int
  | 5 => .array .int
  | _ => .int
def TX11 : u_T := fun k => match k with
  | 0 => ("TwoAlike", "scene", "LTwoAlike$Scene;", true)
  | 1 => ("TwoAlike", "imageOfScene", "LTwoAlike$Scene;", true)
  | 2 => ("TwoAlike", "hasImage", "Z", false)
  | 3 => ("TwoAlike", "peopleInImage", "I", false)
  | 4 => ("TwoAlike", "crowd", "LTwoAlike$Crowd;", true)
  | 5 => ("TwoAlike", "theLaw", "LTwoAlike$Law;", true)
  | 6 => ("TwoAlike", "tape", "LTwoAlike$Tape;", true)
  | 7 => ("TwoAlike", "likeness", "LTwoAlike$Likeness;", true)
  | 8 => ("TwoAlike", "day", "LTwoAlike$Day;", true)
  | 9 => ("TwoAlike", "wardrobe", "LTwoAlike$Wardrobe;", true)
  | 10 => ("TwoAlike", "sightings", "LTwoAlike$Sightings;", true)
  | 11 => ("TwoAlike", "changes", "LTwoAlike$Changes;", true)
  | 12 => ("TwoAlike", "twins", "LTwoAlike$Twins;", true)
  | _ => ("TwoAlike", "shelves", "LTwoAlike$Shelves;", true)
def tyX11 : Nat → FieldType := fun k => match k with
  | 0 => .object "TwoAlike$Scene"
  | 1 => .object "TwoAlike$Scene"
  | 2 => .boolean
  | 3 => .int
  | 4 => .object "TwoAlike$Crowd"
  | 5 => .object "TwoAlike$Law"
  | 6 => .object "TwoAlike$Tape"
  | 7 => .object "TwoAlike$Likeness"
  | 8 => .object "TwoAlike$Day"
  | 9 => .object "TwoAlike$Wardrobe"
  | 10 => .object "TwoAlike$Sightings"
  | 11 => .object "TwoAlike$Changes"
  | 12 => .object "TwoAlike$Twins"
  | _ => .object "TwoAlike$Shelves"
def TX12 : u_T := fun k => match k with
  | 0 => ("TwoAlikeModel", "may", "[I", true)
  | 1 => ("TwoAlikeModel", "changeAt", "[I", true)
  | 2 => ("TwoAlikeModel", "changeWas", "[I", true)
  | 3 => ("TwoAlikeModel", "changeIs", "[I", true)
  | 4 => ("TwoAlikeModel", "keptMany", "I", false)
  | 5 => ("TwoAlikeModel", "done", "I", false)
  | 6 => ("TwoAlikeModel", "people", "I", false)
  | 7 => ("TwoAlikeModel", "hat", "[I", true)
  | 8 => ("TwoAlikeModel", "errands", "[I", true)
  | 9 => ("TwoAlikeModel", "street", "[I", true)
  | 10 => ("TwoAlikeModel", "takes1", "[I", true)
  | 11 => ("TwoAlikeModel", "tape", "[I", true)
  | 12 => ("TwoAlikeModel", "tapeMany", "I", false)
  | 13 => ("TwoAlikeModel", "text", "[I", true)
  | 14 => ("TwoAlikeModel", "textMany", "I", false)
  | 15 => ("TwoAlikeModel", "base", "I", false)
  | 16 => ("TwoAlikeModel", "at", "I", false)
  | 17 => ("TwoAlikeModel", "ends", "I", false)
  | 18 => ("TwoAlikeModel", "fault", "I", false)
  | 19 => ("TwoAlikeModel", "opened", "I", false)
  | 20 => ("TwoAlikeModel", "names", "[I", true)
  | 21 => ("TwoAlikeModel", "likes", "[I", true)
  | 22 => ("TwoAlikeModel", "planAt", "[I", true)
  | 23 => ("TwoAlikeModel", "isBarred", "[Z", true)
  | 24 => ("TwoAlikeModel", "waits", "[I", true)
  | 25 => ("TwoAlikeModel", "planned", "I", false)
  | 26 => ("TwoAlikeModel", "ledFirst", "[I", true)
  | 27 => ("TwoAlikeModel", "ledLast", "[I", true)
  | 28 => ("TwoAlikeModel", "row", "[I", true)
  | 29 => ("TwoAlikeModel", "bestRow", "[I", true)
  | 30 => ("TwoAlikeModel", "bestSum", "I", false)
  | 31 => ("TwoAlikeModel", "clash", "[Z", true)
  | 32 => ("TwoAlikeModel", "wears", "[I", true)
  | 33 => ("TwoAlikeModel", "toldAt", "[I", true)
  | 34 => ("TwoAlikeModel", "sights", "I", false)
  | 35 => ("TwoAlikeModel", "sight", "[I", true)
  | 36 => ("TwoAlikeModel", "barsOf", "[I", true)
  | 37 => ("TwoAlikeModel", "least", "[I", true)
  | 38 => ("TwoAlikeModel", "isKept", "Z", false)
  | 39 => ("TwoAlikeModel", "imagePeople", "I", false)
  | 40 => ("TwoAlikeModel", "imageSights", "I", false)
  | 41 => ("TwoAlikeModel", "imageHat", "[I", true)
  | 42 => ("TwoAlikeModel", "imageTold", "[I", true)
  | 43 => ("TwoAlikeModel", "imageSight", "[I", true)
  | 44 => ("TwoAlikeModel", "bodies", "I", false)
  | 45 => ("TwoAlikeModel", "bodyKind", "[I", true)
  | 46 => ("TwoAlikeModel", "trace", "[I", true)
  | 47 => ("TwoAlikeModel", "ran", "I", false)
  | 48 => ("TwoAlikeModel", "ownKind", "I", false)
  | 49 => ("TwoAlikeModel", "ownNumber", "I", false)
  | 50 => ("TwoAlikeModel", "shelf", "[I", true)
  | 51 => ("TwoAlikeModel", "many", "[I", true)
  | 52 => ("TwoAlikeModel", "items", "[J", true)
  | _ => ("TwoAlikeModel", "carried", "[J", true)
def tyX12 : Nat → FieldType := fun k => match k with
  | 0 => .array .int
  | 1 => .array .int
  | 2 => .array .int
  | 3 => .array .int
  | 4 => .int
  | 5 => .int
  | 6 => .int
  | 7 => .array .int
  | 8 => .array .int
  | 9 => .array .int
  | 10 => .array .int
  | 11 => .array .int
  | 12 => .int
  | 13 => .array .int
  | 14 => .int
  | 15 => .int
  | 16 => .int
  | 17 => .int
  | 18 => .int
  | 19 => .int
  | 20 => .array .int
  | 21 => .array .int
  | 22 => .array .int
  | 23 => .array .boolean
  | 24 => .array .int
  | 25 => .int
  | 26 => .array .int
  | 27 => .array .int
  | 28 => .array .int
  | 29 => .array .int
  | 30 => .int
  | 31 => .array .boolean
  | 32 => .array .int
  | 33 => .array .int
  | 34 => .int
  | 35 => .array .int
  | 36 => .array .int
  | 37 => .array .int
  | 38 => .boolean
  | 39 => .int
  | 40 => .int
  | 41 => .array .int
  | 42 => .array .int
  | 43 => .array .int
  | 44 => .int
  | 45 => .array .int
  | 46 => .array .int
  | 47 => .int
  | 48 => .int
  | 49 => .int
  | 50 => .array .int
  | 51 => .array .int
  | 52 => .array .long
  | _ => .array .long
abbrev vwCl : List vw_C := [("TwoAlike$Changes", TX0, 7), ("TwoAlike$Crowd", TX1, 10), ("TwoAlike$Day", TX2, 13), ("TwoAlike$Law", TX3, 6), ("TwoAlike$Likeness", TX4, 3), ("TwoAlike$Scene", TX5, 6), ("TwoAlike$Shelves", TX6, 5), ("TwoAlike$Sightings", TX7, 6), ("TwoAlike$Tape", TX8, 4), ("TwoAlike$Twins", TX9, 5), ("TwoAlike$Wardrobe", TX10, 7), ("TwoAlike", TX11, 14), ("TwoAlikeModel", TX12, 54)]
/-- code by sixteens of pc -/
abbrev xK : Type := List (List (Nat × Instr))
def k0 : xK := [[(0, .aload_n 0), (1, .invokespecial 3), (4, .aload_n 0), (5, .bipush 40), (7, .newarray .int), (9, .putfield 11), (12, .aload_n 0), (13, .bipush 40), (15, .newarray .int)], [(17, .putfield 15), (20, .aload_n 0), (21, .bipush 40), (23, .newarray .int), (25, .putfield 18), (28, .aload_n 0), (29, .bipush 40), (31, .newarray .int)], [(33, .putfield 21), (36, .aload_n 0), (37, .aload_n 1), (38, .putfield 24), (41, .return_)]]
def k1 : xK := [[(0, .aload_n 0), (1, .getfield 28), (4, .bipush 40), (6, .if_icmp .lt 7), (9, .aload_n 0), (10, .invokevirtual 32), (13, .aload_n 0), (14, .getfield 11)], [(17, .aload_n 0), (18, .getfield 28), (21, .iload_n 1), (22, .iastore), (23, .aload_n 0), (24, .getfield 15), (27, .aload_n 0), (28, .getfield 28), (31, .iload_n 2)], [(32, .iastore), (33, .aload_n 0), (34, .getfield 18), (37, .aload_n 0), (38, .getfield 28), (41, .iload_n 3), (42, .iastore), (43, .aload_n 0), (44, .getfield 21), (47, .aload_n 0)], [(48, .getfield 28), (51, .iload 4), (53, .iastore), (54, .aload_n 0), (55, .dup), (56, .getfield 28), (59, .iconst 1), (60, .iadd), (61, .putfield 28)], [(64, .aload_n 0), (65, .aload_n 0), (66, .getfield 28), (69, .putfield 35), (72, .aload_n 0), (73, .getfield 24), (76, .iload_n 1), (77, .iload_n 2), (78, .iload 4)], [(80, .invokevirtual 38), (83, .return_)]]
def k2 : xK := [[(0, .iconst 1), (1, .istore_n 1), (2, .iload_n 1), (3, .bipush 40), (5, .if_icmp .ge 65), (8, .aload_n 0), (9, .getfield 11), (12, .iload_n 1), (13, .iconst 1), (14, .isub), (15, .aload_n 0)], [(16, .getfield 11), (19, .iload_n 1), (20, .iaload), (21, .iastore), (22, .aload_n 0), (23, .getfield 15), (26, .iload_n 1), (27, .iconst 1), (28, .isub), (29, .aload_n 0), (30, .getfield 15)], [(33, .iload_n 1), (34, .iaload), (35, .iastore), (36, .aload_n 0), (37, .getfield 18), (40, .iload_n 1), (41, .iconst 1), (42, .isub), (43, .aload_n 0), (44, .getfield 18), (47, .iload_n 1)], [(48, .iaload), (49, .iastore), (50, .aload_n 0), (51, .getfield 21), (54, .iload_n 1), (55, .iconst 1), (56, .isub), (57, .aload_n 0), (58, .getfield 21), (61, .iload_n 1), (62, .iaload), (63, .iastore)], [(64, .iinc 1 1), (67, .goto (-65)), (70, .aload_n 0), (71, .bipush 39), (73, .putfield 28), (76, .return_)]]
def k3 : xK := [[(0, .aload_n 0), (1, .getfield 28), (4, .ifCond .gt 6), (7, .bipush (-5)), (9, .ireturn), (10, .aload_n 0), (11, .dup), (12, .getfield 28), (15, .iconst 1)], [(16, .isub), (17, .putfield 28), (20, .aload_n 0), (21, .getfield 24), (24, .aload_n 0), (25, .getfield 11), (28, .aload_n 0), (29, .getfield 28)], [(32, .iaload), (33, .aload_n 0), (34, .getfield 15), (37, .aload_n 0), (38, .getfield 28), (41, .iaload), (42, .aload_n 0), (43, .getfield 18), (46, .aload_n 0), (47, .getfield 28)], [(50, .iaload), (51, .invokevirtual 38), (54, .aload_n 0), (55, .getfield 28), (58, .ireturn)]]
def k4 : xK := [[(0, .aload_n 0), (1, .getfield 28), (4, .aload_n 0), (5, .getfield 35), (8, .if_icmp .lt 6), (11, .bipush (-5)), (13, .ireturn), (14, .aload_n 0), (15, .getfield 24)], [(18, .aload_n 0), (19, .getfield 11), (22, .aload_n 0), (23, .getfield 28), (26, .iaload), (27, .aload_n 0), (28, .getfield 15), (31, .aload_n 0)], [(32, .getfield 28), (35, .iaload), (36, .aload_n 0), (37, .getfield 21), (40, .aload_n 0), (41, .getfield 28), (44, .iaload), (45, .invokevirtual 38)], [(48, .aload_n 0), (49, .dup), (50, .getfield 28), (53, .iconst 1), (54, .iadd), (55, .putfield 28), (58, .aload_n 0), (59, .getfield 35), (62, .aload_n 0), (63, .getfield 28)], [(66, .isub), (67, .ireturn)]]
def k5 : xK := [[(0, .aload_n 0), (1, .invokespecial 3), (4, .aload_n 0), (5, .bipush 7), (7, .newarray .int), (9, .putfield 9), (12, .aload_n 0), (13, .bipush 7), (15, .newarray .int)], [(17, .putfield 15), (20, .aload_n 0), (21, .bipush 7), (23, .newarray .int), (25, .putfield 18), (28, .aload_n 0), (29, .bipush 7), (31, .newarray .int)], [(33, .putfield 21), (36, .aload_n 0), (37, .bipush 28), (39, .newarray .int), (41, .putfield 24), (44, .aload_n 0), (45, .bipush 28), (47, .newarray .int)], [(49, .putfield 27), (52, .aload_n 0), (53, .aload_n 1), (54, .putfield 30), (57, .return_)]]
def k6 : xK := [[(0, .iload_n 1), (1, .ifCond .lt 15), (4, .iload_n 1), (5, .aload_n 0), (6, .getfield 34), (9, .if_icmp .ge 7), (12, .iconst 1), (13, .goto 4)], [(16, .iconst 0), (17, .ireturn)]]
def k7 : xK := [[(0, .iload_n 1), (1, .ifCond .lt 40), (4, .aload_n 0), (5, .iload_n 1), (6, .bipush 10), (8, .idiv), (9, .invokevirtual 38), (12, .ifCond .eq 29), (15, .aload_n 0)], [(16, .iload_n 1), (17, .bipush 10), (19, .irem), (20, .invokevirtual 38), (23, .ifCond .eq 18), (26, .iload_n 1), (27, .bipush 10), (29, .idiv), (30, .iload_n 1), (31, .bipush 10)], [(33, .irem), (34, .if_icmp .eq 7), (37, .iconst 1), (38, .goto 4), (41, .iconst 0), (42, .ireturn)]]
def k8 : xK := [[(0, .iconst 1), (1, .aload_n 0), (2, .getfield 34), (5, .ishl), (6, .iconst 1), (7, .isub), (8, .ireturn)]]
def k9 : xK := [[(0, .aload_n 0), (1, .getfield 34), (4, .bipush 7), (6, .if_icmp .lt 6), (9, .bipush (-3)), (11, .ireturn), (12, .aload_n 0), (13, .getfield 9)], [(16, .aload_n 0), (17, .getfield 34), (20, .iload_n 1), (21, .iastore), (22, .aload_n 0), (23, .getfield 15), (26, .aload_n 0), (27, .getfield 34), (30, .iload_n 2), (31, .iastore)], [(32, .aload_n 0), (33, .dup), (34, .getfield 34), (37, .iconst 1), (38, .iadd), (39, .putfield 34), (42, .aload_n 0), (43, .getfield 34), (46, .iconst 1), (47, .isub)], [(48, .ireturn)]]
def k10 : xK := [[(0, .aload_n 0), (1, .getfield 21), (4, .iload_n 1), (5, .iaload), (6, .istore 4), (8, .iload 4), (10, .iconst 4), (11, .if_icmp .lt 6), (14, .bipush (-3))], [(16, .ireturn), (17, .aload_n 0), (18, .getfield 24), (21, .iload_n 1), (22, .iconst 4), (23, .imul), (24, .iload 4), (26, .iadd), (27, .iload_n 2), (28, .iastore), (29, .aload_n 0), (30, .getfield 27)], [(33, .iload_n 1), (34, .iconst 4), (35, .imul), (36, .iload 4), (38, .iadd), (39, .iload_n 3), (40, .iastore), (41, .aload_n 0), (42, .getfield 21), (45, .iload_n 1), (46, .iload 4)], [(48, .iconst 1), (49, .iadd), (50, .iastore), (51, .iload 4), (53, .iconst 1), (54, .iadd), (55, .ireturn)]]
def k11 : xK := [[(0, .aload_n 0), (1, .getfield 21), (4, .iload_n 1), (5, .iaload), (6, .istore_n 2), (7, .aload_n 0), (8, .getfield 21), (11, .iload_n 1), (12, .iconst 0), (13, .iastore), (14, .iload_n 2), (15, .ireturn)]]
def k12 : xK := [[(0, .iconst 0), (1, .istore_n 2), (2, .iconst 0), (3, .istore_n 3), (4, .iload_n 3), (5, .aload_n 0), (6, .getfield 21), (9, .iload_n 1), (10, .iaload), (11, .if_icmp .ge 22), (14, .iload_n 2), (15, .aload_n 0)], [(16, .getfield 27), (19, .iload_n 1), (20, .iconst 4), (21, .imul), (22, .iload_n 3), (23, .iadd), (24, .iaload), (25, .iadd), (26, .istore_n 2), (27, .iinc 3 1), (30, .goto (-26))], [(33, .iload_n 2), (34, .ireturn)]]
def k13 : xK := [[(0, .iconst 0), (1, .istore_n 1), (2, .iconst 0), (3, .istore_n 2), (4, .iload_n 2), (5, .aload_n 0), (6, .getfield 34), (9, .if_icmp .ge 18), (12, .iload_n 1), (13, .aload_n 0), (14, .getfield 21)], [(17, .iload_n 2), (18, .iaload), (19, .iadd), (20, .istore_n 1), (21, .iinc 2 1), (24, .goto (-20)), (27, .iload_n 1), (28, .ireturn)]]
def k14 : xK := [[(0, .aload_n 0), (1, .getfield 30), (4, .getfield 42), (7, .iload_n 1), (8, .iaload), (9, .ireturn)]]
def k15 : xK := [[(0, .iload_n 2), (1, .iconst (-1)), (2, .if_icmp .ne 5), (5, .iconst 1), (6, .ireturn), (7, .iload_n 2), (8, .ifCond .lt 27), (11, .iload_n 2), (12, .bipush 6), (14, .if_icmp .ge 21)], [(17, .aload_n 0), (18, .getfield 15), (21, .iload_n 1), (22, .iaload), (23, .iload_n 2), (24, .ishr), (25, .iconst 1), (26, .iand), (27, .iconst 1), (28, .if_icmp .ne 7), (31, .iconst 1)], [(32, .goto 4), (35, .iconst 0), (36, .ireturn)]]
def k16 : xK := [[(0, .aload_n 0), (1, .getfield 9), (4, .iload_n 1), (5, .iaload), (6, .aload_n 0), (7, .getfield 30), (10, .getfield 42), (13, .iload_n 1), (14, .iaload), (15, .invokestatic 47)], [(18, .ireturn)]]
def k17 : xK := [[(0, .aload_n 0), (1, .getfield 9), (4, .iload_n 1), (5, .iaload), (6, .iload_n 2), (7, .invokestatic 47), (10, .ireturn)]]
def k18 : xK := [[(0, .iload_n 2), (1, .iconst 2), (2, .irem), (3, .ifCond .ne 12), (6, .aload_n 0), (7, .getfield 9), (10, .iload_n 1), (11, .iaload), (12, .goto 16), (15, .aload_n 0)], [(16, .getfield 9), (19, .iload_n 1), (20, .iaload), (21, .aload_n 0), (22, .getfield 18), (25, .iload_n 1), (26, .iaload), (27, .ixor), (28, .istore_n 3), (29, .iload_n 3), (30, .aload_n 0), (31, .getfield 30)], [(34, .getfield 42), (37, .iload_n 1), (38, .iaload), (39, .invokestatic 47), (42, .ireturn)]]
def k19 : xK := [[(0, .iload_n 1), (1, .iconst (-1)), (2, .if_icmp .ne 7), (5, .iload_n 0), (6, .goto 8), (9, .iload_n 0), (10, .iconst 1), (11, .iload_n 1), (12, .ishl), (13, .ixor), (14, .ireturn)]]
def k20 : xK := [[(0, .iload_n 2), (1, .tableswitch 57 0 3 #[31, 38, 45, 52])], [], [(32, .aload_n 0), (33, .getfield 9), (36, .iload_n 1), (37, .iaload), (38, .ireturn), (39, .aload_n 0), (40, .getfield 15), (43, .iload_n 1), (44, .iaload), (45, .ireturn), (46, .aload_n 0), (47, .getfield 18)], [(50, .iload_n 1), (51, .iaload), (52, .ireturn), (53, .aload_n 0), (54, .getfield 51), (57, .ireturn), (58, .aload_n 0), (59, .getfield 54), (62, .ireturn)]]
def k21 : xK := [[(0, .iload_n 2), (1, .tableswitch 69 0 3 #[31, 41, 51, 61])], [], [(32, .aload_n 0), (33, .getfield 9), (36, .iload_n 1), (37, .iload_n 3), (38, .iastore), (39, .goto 36), (42, .aload_n 0), (43, .getfield 15), (46, .iload_n 1), (47, .iload_n 3)], [(48, .iastore), (49, .goto 26), (52, .aload_n 0), (53, .getfield 18), (56, .iload_n 1), (57, .iload_n 3), (58, .iastore), (59, .goto 16), (62, .aload_n 0), (63, .iload_n 3)], [(64, .putfield 51), (67, .goto 8), (70, .aload_n 0), (71, .iload_n 3), (72, .putfield 54), (75, .return_)]]
def k22 : xK := [[(0, .iconst 0), (1, .istore_n 1), (2, .iload_n 1), (3, .aload_n 0), (4, .getfield 34), (7, .if_icmp .ge 24), (10, .aload_n 0), (11, .getfield 9), (14, .iload_n 1), (15, .dup2)], [(16, .iaload), (17, .aload_n 0), (18, .getfield 18), (21, .iload_n 1), (22, .iaload), (23, .ixor), (24, .iastore), (25, .iinc 1 1), (28, .goto (-26)), (31, .aload_n 0)], [(32, .aload_n 0), (33, .getfield 54), (36, .iconst 1), (37, .iadd), (38, .bipush 12), (40, .irem), (41, .putfield 54), (44, .aload_n 0), (45, .getfield 54)], [(48, .ireturn)]]
def k23 : xK := [[(0, .aload_n 0), (1, .invokespecial 3), (4, .aload_n 0), (5, .bipush 35), (7, .newarray .int), (9, .putfield 9), (12, .aload_n 0), (13, .bipush 7), (15, .newarray .int)], [(17, .putfield 15), (20, .aload_n 0), (21, .bipush 7), (23, .newarray .int), (25, .putfield 18), (28, .aload_n 0), (29, .bipush 7), (31, .newarray .int)], [(33, .putfield 21), (36, .aload_n 0), (37, .bipush 7), (39, .newarray .boolean), (41, .putfield 24), (44, .aload_n 0), (45, .bipush 7), (47, .newarray .int)], [(49, .putfield 28), (52, .aload_n 0), (53, .bipush 7), (55, .newarray .int), (57, .putfield 31), (60, .aload_n 0), (61, .bipush 7), (63, .newarray .int)], [(65, .putfield 34), (68, .aload_n 0), (69, .bipush 7), (71, .newarray .int), (73, .putfield 37), (76, .aload_n 0), (77, .aload_n 1), (78, .putfield 40)], [(81, .aload_n 0), (82, .aload_n 2), (83, .putfield 44), (86, .return_)]]
def k24 : xK := [[(0, .aload_n 0), (1, .getfield 44), (4, .invokevirtual 48), (7, .aload_n 0), (8, .iconst (-1)), (9, .invokevirtual 53), (12, .return_)]]
def k25 : xK := [[(0, .iconst 0), (1, .istore_n 2), (2, .iconst 0), (3, .istore_n 3), (4, .iload_n 3), (5, .aload_n 0), (6, .getfield 40), (9, .getfield 57), (12, .if_icmp .ge 30), (15, .iload_n 3)], [(16, .iload_n 1), (17, .if_icmp .ne 6), (20, .goto 16), (23, .aload_n 0), (24, .iload_n 3), (25, .iload_n 2), (26, .invokevirtual 63), (29, .pop), (30, .iload_n 2), (31, .iconst 1)], [(32, .iload_n 3), (33, .ishl), (34, .ior), (35, .istore_n 2), (36, .iinc 3 1), (39, .goto (-35)), (42, .return_)]]
def k26 : xK := [[(0, .aload_n 0), (1, .iload_n 1), (2, .invokevirtual 67), (5, .iconst 0), (6, .istore_n 3), (7, .iconst 0), (8, .istore 4), (10, .iload 4), (12, .aload_n 0), (13, .getfield 40)], [(16, .getfield 70), (19, .iload_n 1), (20, .iaload), (21, .if_icmp .ge 128), (24, .aload_n 0), (25, .getfield 40), (28, .getfield 73), (31, .iload_n 1)], [(32, .iconst 4), (33, .imul), (34, .iload 4), (36, .iadd), (37, .iaload), (38, .istore 5), (40, .aload_n 0), (41, .getfield 40), (44, .getfield 76), (47, .iload_n 1)], [(48, .iconst 4), (49, .imul), (50, .iload 4), (52, .iadd), (53, .iaload), (54, .istore 6), (56, .aload_n 0), (57, .aload_n 0), (58, .getfield 44), (61, .getfield 79)], [(64, .iload_n 1), (65, .iaload), (66, .iload_n 2), (67, .iand), (68, .iload 5), (70, .invokevirtual 82), (73, .iload_n 3), (74, .iload 6), (76, .invokestatic 85), (79, .istore 7)], [(81, .iload 7), (83, .ifCond .ge 18), (86, .aload_n 0), (87, .iload_n 1), (88, .invokevirtual 67), (91, .aload_n 0), (92, .getfield 24), (95, .iload_n 1)], [(96, .iconst 1), (97, .bastore), (98, .bipush 30), (100, .ireturn), (101, .iload 4), (103, .ifCond .ne 11), (106, .aload_n 0), (107, .getfield 15), (110, .iload_n 1), (111, .iload 7)], [(113, .iastore), (114, .aload_n 0), (115, .getfield 9), (118, .iload_n 1), (119, .iconst 5), (120, .imul), (121, .iload 5), (123, .iadd), (124, .dup2), (125, .iaload), (126, .iconst 1), (127, .iload 6)], [(129, .ishl), (130, .iconst 1), (131, .isub), (132, .iload 7), (134, .ishl), (135, .ior), (136, .iastore), (137, .iload 7), (139, .iload 6), (141, .iadd), (142, .istore_n 3), (143, .iinc 4 1)], [(146, .goto (-136)), (149, .aload_n 0), (150, .getfield 18), (153, .iload_n 1), (154, .iload_n 3), (155, .iconst 1), (156, .isub), (157, .iastore), (158, .aload_n 0), (159, .getfield 21)], [(162, .iload_n 1), (163, .iload_n 3), (164, .aload_n 0), (165, .getfield 40), (168, .iload_n 1), (169, .invokevirtual 89), (172, .isub), (173, .iastore), (174, .aload_n 0), (175, .getfield 21)], [(178, .iload_n 1), (179, .iaload), (180, .ireturn)]]
def k27 : xK := [[(0, .iconst 0), (1, .istore_n 2), (2, .iload_n 2), (3, .iconst 5), (4, .if_icmp .ge 20), (7, .aload_n 0), (8, .getfield 9), (11, .iload_n 1), (12, .iconst 5), (13, .imul), (14, .iload_n 2), (15, .iadd)], [(16, .iconst 0), (17, .iastore), (18, .iinc 2 1), (21, .goto (-19)), (24, .aload_n 0), (25, .getfield 15), (28, .iload_n 1), (29, .iconst (-1)), (30, .iastore), (31, .aload_n 0)], [(32, .getfield 18), (35, .iload_n 1), (36, .iconst (-1)), (37, .iastore), (38, .aload_n 0), (39, .getfield 21), (42, .iload_n 1), (43, .iconst 0), (44, .iastore), (45, .aload_n 0), (46, .getfield 24)], [(49, .iload_n 1), (50, .iconst 0), (51, .bastore), (52, .return_)]]
def k28 : xK := [[(0, .iconst 0), (1, .istore_n 3), (2, .iconst 0), (3, .istore 4), (5, .iload 4), (7, .aload_n 0), (8, .getfield 40), (11, .getfield 57), (14, .if_icmp .ge 33)], [(17, .iload_n 1), (18, .iload 4), (20, .ishr), (21, .iconst 1), (22, .iand), (23, .iconst 1), (24, .if_icmp .ne 17), (27, .iload_n 3), (28, .aload_n 0), (29, .getfield 9)], [(32, .iload 4), (34, .iconst 5), (35, .imul), (36, .iload_n 2), (37, .iadd), (38, .iaload), (39, .ior), (40, .istore_n 3), (41, .iinc 4 1), (44, .goto (-39)), (47, .iload_n 3)], [(48, .ireturn)]]
def k29 : xK := [[(0, .iconst 1), (1, .iload_n 2), (2, .ishl), (3, .iconst 1), (4, .isub), (5, .istore_n 3), (6, .iload_n 1), (7, .istore 4), (9, .iload 4), (11, .iload_n 2), (12, .iadd), (13, .bipush 30), (15, .if_icmp .gt 21)], [(18, .iload_n 0), (19, .iload 4), (21, .ishr), (22, .iload_n 3), (23, .iand), (24, .ifCond .ne 6), (27, .iload 4), (29, .ireturn), (30, .iinc 4 1)], [(33, .goto (-24)), (36, .iconst (-1)), (37, .ireturn)]]
def k30 : xK := [[(0, .iconst 0), (1, .istore_n 1), (2, .iconst 0), (3, .istore_n 2), (4, .iload_n 2), (5, .aload_n 0), (6, .getfield 40), (9, .getfield 57), (12, .if_icmp .ge 32), (15, .iload_n 1)], [(16, .aload_n 0), (17, .getfield 24), (20, .iload_n 2), (21, .baload), (22, .ifCond .eq 8), (25, .bipush 30), (27, .goto 9), (30, .aload_n 0), (31, .getfield 21)], [(34, .iload_n 2), (35, .iaload), (36, .iadd), (37, .istore_n 1), (38, .iinc 2 1), (41, .goto (-37)), (44, .iload_n 1), (45, .ireturn)]]
def k31 : xK := [[(0, .iconst 0), (1, .istore_n 3), (2, .iload_n 3), (3, .iconst 5), (4, .if_icmp .ge 29), (7, .aload_n 0), (8, .getfield 9), (11, .iload_n 1), (12, .iconst 5), (13, .imul), (14, .iload_n 3), (15, .iadd)], [(16, .iaload), (17, .iload_n 2), (18, .ishr), (19, .iconst 1), (20, .iand), (21, .iconst 1), (22, .if_icmp .ne 5), (25, .iload_n 3), (26, .ireturn), (27, .iinc 3 1), (30, .goto (-28))], [(33, .iconst (-1)), (34, .ireturn)]]
def k32 : xK := [[(0, .iconst 0), (1, .istore_n 1), (2, .iload_n 1), (3, .aload_n 0), (4, .getfield 40), (7, .getfield 57), (10, .if_icmp .ge 33), (13, .aload_n 0), (14, .getfield 34)], [(17, .iload_n 1), (18, .aload_n 0), (19, .getfield 15), (22, .iload_n 1), (23, .iaload), (24, .iastore), (25, .aload_n 0), (26, .getfield 37), (29, .iload_n 1), (30, .aload_n 0), (31, .getfield 18)], [(34, .iload_n 1), (35, .iaload), (36, .iastore), (37, .iinc 1 1), (40, .goto (-38)), (43, .aload_n 0), (44, .aload_n 0), (45, .getfield 40)], [(48, .getfield 57), (51, .putfield 93), (54, .return_)]]
def k33 : xK := [[(0, .aload_n 0), (1, .getfield 44), (4, .invokevirtual 48), (7, .aload_n 0), (8, .iconst (-1)), (9, .invokevirtual 53), (12, .aload_n 0), (13, .getfield 21)], [(16, .iload_n 1), (17, .iaload), (18, .istore_n 2), (19, .aload_n 0), (20, .getfield 24), (23, .iload_n 1), (24, .baload), (25, .istore_n 3), (26, .iconst 0), (27, .istore 4), (29, .iload 4), (31, .iload_n 1)], [(32, .if_icmp .ge 41), (35, .aload_n 0), (36, .iload 4), (38, .invokevirtual 53), (41, .aload_n 0), (42, .getfield 21), (45, .iload_n 1), (46, .iaload), (47, .iload_n 2)], [(48, .if_icmp .lt 16), (51, .iload_n 3), (52, .ifCond .eq 15), (55, .aload_n 0), (56, .getfield 24), (59, .iload_n 1), (60, .baload), (61, .ifCond .ne 6)], [(64, .iload 4), (66, .ireturn), (67, .iinc 4 1), (70, .goto (-41)), (73, .bipush (-2)), (75, .ireturn)]]
def k34 : xK := [[(0, .aload_n 0), (1, .getfield 44), (4, .invokevirtual 48), (7, .aload_n 0), (8, .sipush 211), (11, .putfield 96), (14, .aload_n 0), (15, .iconst 0)], [(16, .iconst 0), (17, .iconst 0), (18, .invokevirtual 99), (21, .return_)]]
def k35 : xK := [[(0, .iload_n 1), (1, .aload_n 0), (2, .getfield 40), (5, .getfield 57), (8, .if_icmp .lt 9), (11, .aload_n 0), (12, .iload_n 3), (13, .invokevirtual 103)], [(16, .return_), (17, .aload_n 0), (18, .iload_n 2), (19, .iload_n 3), (20, .invokevirtual 106), (23, .aload_n 0), (24, .getfield 96), (27, .if_icmp .lt 4), (30, .return_), (31, .iconst 0)], [(32, .istore 4), (34, .iload 4), (36, .aload_n 0), (37, .getfield 40), (40, .getfield 57), (43, .if_icmp .ge 27), (46, .iload_n 2), (47, .iload 4)], [(49, .ishr), (50, .iconst 1), (51, .iand), (52, .ifCond .ne 12), (55, .aload_n 0), (56, .iload 4), (58, .iload_n 1), (59, .iload_n 2), (60, .iload_n 3), (61, .invokevirtual 109)], [(64, .iinc 4 1), (67, .goto (-33)), (70, .return_)]]
def k36 : xK := [[(0, .aload_n 0), (1, .getfield 28), (4, .iload_n 2), (5, .iload_n 1), (6, .iastore), (7, .aload_n 0), (8, .iload_n 1), (9, .iload_n 3), (10, .invokevirtual 63), (13, .istore 5), (15, .aload_n 0)], [(16, .iload_n 2), (17, .iconst 1), (18, .iadd), (19, .iload_n 3), (20, .iconst 1), (21, .iload_n 1), (22, .ishl), (23, .ior), (24, .iload 4), (26, .iload 5), (28, .iadd), (29, .invokevirtual 99)], [(32, .return_)]]
def k37 : xK := [[(0, .iload_n 2), (1, .istore_n 3), (2, .iconst 0), (3, .istore 4), (5, .iload 4), (7, .aload_n 0), (8, .getfield 40), (11, .getfield 57), (14, .if_icmp .ge 28)], [(17, .iload_n 1), (18, .iload 4), (20, .ishr), (21, .iconst 1), (22, .iand), (23, .ifCond .ne 13), (26, .iload_n 3), (27, .aload_n 0), (28, .iload 4), (30, .iload_n 1), (31, .invokevirtual 63)], [(34, .iadd), (35, .istore_n 3), (36, .iinc 4 1), (39, .goto (-34)), (42, .iload_n 3), (43, .ireturn)]]
def k38 : xK := [[(0, .iload_n 1), (1, .aload_n 0), (2, .getfield 96), (5, .if_icmp .lt 4), (8, .return_), (9, .aload_n 0), (10, .iload_n 1), (11, .putfield 96), (14, .iconst 0), (15, .istore_n 2)], [(16, .iload_n 2), (17, .aload_n 0), (18, .getfield 40), (21, .getfield 57), (24, .if_icmp .ge 21), (27, .aload_n 0), (28, .getfield 31), (31, .iload_n 2)], [(32, .aload_n 0), (33, .getfield 28), (36, .iload_n 2), (37, .iaload), (38, .iastore), (39, .iinc 2 1), (42, .goto (-26)), (45, .return_)]]
def k39 : xK := [[(0, .aload_n 0), (1, .invokespecial 3), (4, .aload_n 0), (5, .sipush 128), (8, .newarray .int), (10, .putfield 11), (13, .aload_n 0), (14, .sipush 128)], [(17, .newarray .int), (19, .putfield 15), (22, .aload_n 0), (23, .sipush 128), (26, .newarray .int), (28, .putfield 18), (31, .aload_n 0)], [(32, .bipush 6), (34, .newarray .int), (36, .putfield 21), (39, .return_)]]
def k40 : xK := [[(0, .aload_n 0), (1, .aload_n 1), (2, .getfield 24), (5, .putfield 24), (8, .iconst 0), (9, .istore_n 2), (10, .iload_n 2), (11, .sipush 128), (14, .if_icmp .ge 33)], [(17, .aload_n 0), (18, .getfield 11), (21, .iload_n 2), (22, .aload_n 1), (23, .getfield 11), (26, .iload_n 2), (27, .iaload), (28, .iastore), (29, .aload_n 0), (30, .getfield 15)], [(33, .iload_n 2), (34, .aload_n 1), (35, .getfield 15), (38, .iload_n 2), (39, .iaload), (40, .iastore), (41, .iinc 2 1), (44, .goto (-34)), (47, .return_)]]
def k41 : xK := [[(0, .aload_n 0), (1, .getfield 24), (4, .sipush 128), (7, .if_icmp .lt 4), (10, .return_), (11, .aload_n 0), (12, .getfield 11), (15, .aload_n 0)], [(16, .getfield 24), (19, .iload_n 1), (20, .iastore), (21, .aload_n 0), (22, .getfield 15), (25, .aload_n 0), (26, .getfield 24), (29, .iload_n 2), (30, .iastore), (31, .aload_n 0)], [(32, .dup), (33, .getfield 24), (36, .iconst 1), (37, .iadd), (38, .putfield 24), (41, .return_)]]
def k42 : xK := [[(0, .iload_n 1), (1, .ifCond .lt 21), (4, .iload_n 1), (5, .aload_n 0), (6, .getfield 24), (9, .if_icmp .ge 13), (12, .aload_n 0), (13, .getfield 15)], [(16, .iload_n 1), (17, .aload_n 0), (18, .getfield 24), (21, .iastore), (22, .return_)]]
def k43 : xK := [[(0, .iload_n 1), (1, .iload_n 2), (2, .ixor), (3, .invokestatic 28), (6, .istore 6), (8, .aload_n 0), (9, .getfield 24), (12, .ifCond .ne 16), (15, .iload 6)], [(17, .iload 5), (19, .if_icmp .gt 7), (22, .iconst 1), (23, .goto 4), (26, .iconst 0), (27, .ireturn), (28, .aload_n 0), (29, .getfield 21)], [(32, .iconst 0), (33, .iload 6), (35, .iastore), (36, .aload_n 0), (37, .getfield 21), (40, .iconst 1), (41, .iload_n 1), (42, .iload_n 2), (43, .invokestatic 34), (46, .iastore), (47, .aload_n 0)], [(48, .getfield 21), (51, .iconst 2), (52, .iload_n 1), (53, .iload_n 2), (54, .invokestatic 40), (57, .iastore), (58, .aload_n 0), (59, .getfield 21), (62, .iconst 3), (63, .iload_n 3)], [(64, .iastore), (65, .aload_n 0), (66, .getfield 21), (69, .iconst 4), (70, .iload 4), (72, .iastore), (73, .aload_n 0), (74, .getfield 21), (77, .iconst 5), (78, .iload 5)], [(80, .iastore), (81, .aload_n 0), (82, .iconst 0), (83, .putfield 43), (86, .iconst 0), (87, .istore 7), (89, .iconst 0), (90, .istore 8), (92, .iload 8), (94, .sipush 128)], [(97, .if_icmp .ge 89), (100, .iload 7), (102, .aload_n 0), (103, .getfield 24), (106, .if_icmp .ge 80), (109, .aload_n 0), (110, .getfield 11)], [(113, .iload 7), (115, .iaload), (116, .istore 9), (118, .iload 9), (120, .bipush 59), (122, .if_icmp .ne 16), (125, .aload_n 0), (126, .invokevirtual 46)], [(129, .ifCond .eq 7), (132, .iconst 1), (133, .goto 4), (136, .iconst 0), (137, .ireturn), (138, .iload 9), (140, .bipush 63), (142, .if_icmp .ne 22)], [(145, .aload_n 0), (146, .invokevirtual 46), (149, .ifCond .ne 15), (152, .aload_n 0), (153, .getfield 15), (156, .iload 7), (158, .iaload), (159, .istore 7)], [(161, .goto 19), (164, .aload_n 0), (165, .iload 9), (167, .aload_n 0), (168, .getfield 15), (171, .iload 7), (173, .iaload), (174, .invokevirtual 50)], [(177, .iinc 7 1), (180, .iinc 8 1), (183, .goto (-91)), (186, .iconst 0), (187, .ireturn)]]
def k44 : xK := [[(0, .iload_n 1), (1, .lookupswitch 123 #[(33, 104), (48, 54), (63, 51), (97, 62), (126, 92)])], [], [], [(52, .goto 90), (55, .aload_n 0), (56, .iload_n 2), (57, .invokevirtual 54), (60, .goto 82), (63, .aload_n 0)], [(64, .iload_n 2), (65, .ifCond .lt 21), (68, .iload_n 2), (69, .aload_n 0), (70, .getfield 21), (73, .arraylength), (74, .if_icmp .ge 12), (77, .aload_n 0), (78, .getfield 21)], [(81, .iload_n 2), (82, .iaload), (83, .goto 4), (86, .iconst 0), (87, .invokevirtual 54), (90, .goto 52), (93, .aload_n 0), (94, .aload_n 0), (95, .invokevirtual 46)], [(98, .ineg), (99, .invokevirtual 54), (102, .goto 40), (105, .aload_n 0), (106, .aload_n 0), (107, .invokevirtual 46), (110, .ifCond .ne 7)], [(113, .iconst 1), (114, .goto 4), (117, .iconst 0), (118, .invokevirtual 54), (121, .goto 21), (124, .aload_n 0), (125, .invokevirtual 46)], [(128, .istore_n 3), (129, .aload_n 0), (130, .iload_n 1), (131, .aload_n 0), (132, .invokevirtual 46), (135, .iload_n 3), (136, .invokestatic 58), (139, .invokevirtual 54), (142, .return_)]]
def k45 : xK := [[(0, .iload_n 0), (1, .lookupswitch 168 #[(38, 97), (42, 152), (43, 144), (45, 148), (47, 156), (60, 111), (61, 122), (62, 133), (124, 83)])], [], [], [], [], [(84, .iload_n 1), (85, .ifCond .ne 7), (88, .iload_n 2), (89, .ifCond .eq 7), (92, .iconst 1), (93, .goto 4)], [(96, .iconst 0), (97, .ireturn), (98, .iload_n 1), (99, .ifCond .eq 11), (102, .iload_n 2), (103, .ifCond .eq 7), (106, .iconst 1), (107, .goto 4), (110, .iconst 0), (111, .ireturn)], [(112, .iload_n 1), (113, .iload_n 2), (114, .if_icmp .ge 7), (117, .iconst 1), (118, .goto 4), (121, .iconst 0), (122, .ireturn), (123, .iload_n 1), (124, .iload_n 2), (125, .if_icmp .ne 7)], [(128, .iconst 1), (129, .goto 4), (132, .iconst 0), (133, .ireturn), (134, .iload_n 1), (135, .iload_n 2), (136, .if_icmp .le 7), (139, .iconst 1), (140, .goto 4), (143, .iconst 0)], [(144, .ireturn), (145, .iload_n 1), (146, .iload_n 2), (147, .iadd), (148, .ireturn), (149, .iload_n 1), (150, .iload_n 2), (151, .isub), (152, .ireturn), (153, .iload_n 1), (154, .iload_n 2), (155, .imul), (156, .ireturn), (157, .iload_n 2), (158, .ifCond .ne 7)], [(161, .iconst 0), (162, .goto 6), (165, .iload_n 1), (166, .iload_n 2), (167, .idiv), (168, .ireturn), (169, .iload_n 2), (170, .ifCond .ne 7), (173, .iconst 0), (174, .goto 6)], [(177, .iload_n 1), (178, .iload_n 2), (179, .irem), (180, .ireturn)]]
def k46 : xK := [[(0, .aload_n 0), (1, .getfield 43), (4, .sipush 128), (7, .if_icmp .lt 4), (10, .return_), (11, .aload_n 0), (12, .getfield 18), (15, .aload_n 0)], [(16, .getfield 43), (19, .iload_n 1), (20, .iastore), (21, .aload_n 0), (22, .dup), (23, .getfield 43), (26, .iconst 1), (27, .iadd), (28, .putfield 43), (31, .return_)]]
def k47 : xK := [[(0, .aload_n 0), (1, .getfield 43), (4, .ifCond .gt 5), (7, .iconst 0), (8, .ireturn), (9, .aload_n 0), (10, .dup), (11, .getfield 43), (14, .iconst 1), (15, .isub)], [(16, .putfield 43), (19, .aload_n 0), (20, .getfield 18), (23, .aload_n 0), (24, .getfield 43), (27, .iaload), (28, .ireturn)]]
def k48 : xK := [[(0, .aload_n 0), (1, .invokespecial 3), (4, .aload_n 0), (5, .bipush 7), (7, .newarray .int), (9, .putfield 9), (12, .aload_n 0), (13, .aload_n 1), (14, .putfield 15)], [(17, .aload_n 0), (18, .aload_n 2), (19, .putfield 19), (22, .return_)]]
def k49 : xK := [[(0, .aload_n 0), (1, .getfield 15), (4, .iload_n 1), (5, .invokevirtual 23), (8, .invokestatic 29), (11, .aload_n 0), (12, .getfield 15), (15, .iload_n 2)], [(16, .invokevirtual 23), (19, .invokestatic 29), (22, .iadd), (23, .istore 4), (25, .aload_n 0), (26, .getfield 15), (29, .getfield 32)], [(32, .iload_n 3), (33, .iadd), (34, .bipush 12), (36, .irem), (37, .istore 5), (39, .aload_n 0), (40, .getfield 19), (43, .aload_n 0), (44, .getfield 15), (47, .iload_n 1)], [(48, .iload_n 3), (49, .invokevirtual 36), (52, .aload_n 0), (53, .getfield 15), (56, .iload_n 2), (57, .iload_n 3), (58, .invokevirtual 36), (61, .iload 4), (63, .iload 5)], [(65, .aload_n 0), (66, .getfield 15), (69, .getfield 40), (72, .invokevirtual 43), (75, .ireturn)]]
def k50 : xK := [[(0, .iload_n 2), (1, .invokestatic 29), (4, .iload 4), (6, .invokestatic 29), (9, .iadd), (10, .istore 5), (12, .aload_n 0), (13, .getfield 19)], [(16, .aload_n 0), (17, .getfield 15), (20, .iload_n 1), (21, .iload_n 2), (22, .invokevirtual 49), (25, .aload_n 0), (26, .getfield 15), (29, .iload_n 3), (30, .iload 4)], [(32, .invokevirtual 49), (35, .iload 5), (37, .aload_n 0), (38, .getfield 15), (41, .getfield 32), (44, .aload_n 0), (45, .getfield 15)], [(48, .getfield 40), (51, .invokevirtual 43), (54, .ireturn)]]
def k51 : xK := [[(0, .iload_n 0), (1, .iconst (-1)), (2, .if_icmp .ne 7), (5, .iconst 0), (6, .goto 4), (9, .iconst 1), (10, .ireturn)]]
def k52 : xK := [[(0, .iconst 0), (1, .istore_n 1), (2, .iload_n 1), (3, .bipush 7), (5, .if_icmp .ge 16), (8, .aload_n 0), (9, .getfield 9), (12, .iload_n 1), (13, .iconst 0), (14, .iastore), (15, .iinc 1 1)], [(18, .goto (-16)), (21, .iconst 0), (22, .istore_n 1), (23, .iload_n 1), (24, .aload_n 0), (25, .getfield 15), (28, .getfield 52), (31, .if_icmp .ge 67)], [(34, .iload_n 1), (35, .iconst 1), (36, .iadd), (37, .istore_n 2), (38, .iload_n 2), (39, .aload_n 0), (40, .getfield 15), (43, .getfield 52), (46, .if_icmp .ge 46)], [(49, .aload_n 0), (50, .iload_n 1), (51, .iload_n 2), (52, .iconst 0), (53, .invokevirtual 55), (56, .ifCond .ne 6), (59, .goto 27), (62, .aload_n 0), (63, .getfield 9)], [(66, .iload_n 1), (67, .dup2), (68, .iaload), (69, .iconst 1), (70, .iload_n 2), (71, .ishl), (72, .ior), (73, .iastore), (74, .aload_n 0), (75, .getfield 9), (78, .iload_n 2), (79, .dup2)], [(80, .iaload), (81, .iconst 1), (82, .iload_n 1), (83, .ishl), (84, .ior), (85, .iastore), (86, .iinc 2 1), (89, .goto (-51)), (92, .iinc 1 1), (95, .goto (-72))], [(98, .return_)]]
def k53 : xK := [[(0, .iconst 0), (1, .istore_n 2), (2, .iconst 0), (3, .istore_n 3), (4, .iload_n 3), (5, .aload_n 0), (6, .getfield 15), (9, .getfield 52), (12, .if_icmp .ge 46), (15, .iload_n 3)], [(16, .iconst 1), (17, .iadd), (18, .istore 4), (20, .iload 4), (22, .aload_n 0), (23, .getfield 15), (26, .getfield 52), (29, .if_icmp .ge 23)], [(32, .aload_n 0), (33, .iload_n 3), (34, .iload 4), (36, .iload_n 1), (37, .invokevirtual 55), (40, .ifCond .eq 6), (43, .iinc 2 1), (46, .iinc 4 1)], [(49, .goto (-29)), (52, .iinc 3 1), (55, .goto (-51)), (58, .iload_n 2), (59, .ireturn)]]
def k54 : xK := [[(0, .aload_n 0), (1, .invokevirtual 59), (4, .iconst 0), (5, .istore_n 1), (6, .iconst 1), (7, .istore_n 2), (8, .iload_n 2), (9, .aload_n 0), (10, .getfield 15), (13, .invokevirtual 62)], [(16, .if_icmp .gt 30), (19, .iload_n 2), (20, .invokestatic 66), (23, .iload_n 1), (24, .invokestatic 66), (27, .if_icmp .le 13), (30, .aload_n 0), (31, .iload_n 2)], [(32, .invokevirtual 71), (35, .ifCond .eq 5), (38, .iload_n 2), (39, .istore_n 1), (40, .iinc 2 1), (43, .goto (-35)), (46, .iload_n 1), (47, .ireturn)]]
def k55 : xK := [[(0, .iconst 0), (1, .istore_n 2), (2, .iload_n 2), (3, .aload_n 0), (4, .getfield 15), (7, .getfield 52), (10, .if_icmp .ge 36), (13, .iload_n 1), (14, .iload_n 2), (15, .ishr)], [(16, .iconst 1), (17, .iand), (18, .iconst 1), (19, .if_icmp .ne 21), (22, .iload_n 1), (23, .aload_n 0), (24, .getfield 9), (27, .iload_n 2), (28, .iaload), (29, .iconst (-1)), (30, .ixor), (31, .iand)], [(32, .iconst 1), (33, .iload_n 2), (34, .ishl), (35, .if_icmp .eq 5), (38, .iconst 0), (39, .ireturn), (40, .iinc 2 1), (43, .goto (-41)), (46, .iconst 1), (47, .ireturn)]]
def k56 : xK := [[(0, .iconst (-1)), (1, .istore_n 3), (2, .iload_n 3), (3, .bipush 6), (5, .if_icmp .ge 41), (8, .aload_n 0), (9, .getfield 15), (12, .iload_n 1), (13, .iload_n 3), (14, .invokevirtual 75)], [(17, .ifCond .eq 23), (20, .aload_n 0), (21, .iload_n 1), (22, .iload_n 3), (23, .iload_n 2), (24, .aload_n 0), (25, .getfield 15), (28, .iload_n 2), (29, .invokevirtual 23)], [(32, .invokevirtual 79), (35, .ifCond .eq 5), (38, .iload_n 3), (39, .ireturn), (40, .iinc 3 1), (43, .goto (-41)), (46, .bipush (-2))], [(48, .ireturn)]]
def k57 : xK := [[(0, .aload_n 0), (1, .invokespecial 3), (4, .aload_n 0), (5, .bipush 7), (7, .newarray .int), (9, .putfield 9), (12, .aload_n 0), (13, .sipush 210)], [(16, .newarray .int), (18, .putfield 15), (21, .aload_n 0), (22, .bipush 10), (24, .newarray .int), (26, .putfield 18), (29, .aload_n 0), (30, .bipush 10)], [(32, .newarray .int), (34, .putfield 21), (37, .aload_n 0), (38, .bipush 10), (40, .newarray .int), (42, .putfield 24), (45, .iconst 0), (46, .istore_n 1), (47, .iload_n 1)], [(48, .bipush 7), (50, .if_icmp .ge 16), (53, .aload_n 0), (54, .getfield 9), (57, .iload_n 1), (58, .iconst (-1)), (59, .iastore), (60, .iinc 1 1), (63, .goto (-16))], [(66, .iconst 0), (67, .istore_n 1), (68, .iload_n 1), (69, .sipush 210), (72, .if_icmp .ge 16), (75, .aload_n 0), (76, .getfield 15), (79, .iload_n 1)], [(80, .iconst (-1)), (81, .iastore), (82, .iinc 1 1), (85, .goto (-17)), (88, .return_)]]
def k58 : xK := [[(0, .iconst 0), (1, .istore_n 2), (2, .iload_n 2), (3, .bipush 7), (5, .if_icmp .ge 21), (8, .aload_n 0), (9, .getfield 9), (12, .iload_n 2), (13, .aload_n 1), (14, .getfield 9)], [(17, .iload_n 2), (18, .iaload), (19, .iastore), (20, .iinc 2 1), (23, .goto (-21)), (26, .iconst 0), (27, .istore_n 2), (28, .iload_n 2), (29, .sipush 210)], [(32, .if_icmp .ge 21), (35, .aload_n 0), (36, .getfield 15), (39, .iload_n 2), (40, .aload_n 1), (41, .getfield 15), (44, .iload_n 2), (45, .iaload), (46, .iastore), (47, .iinc 2 1)], [(50, .goto (-22)), (53, .iconst 0), (54, .istore_n 2), (55, .iload_n 2), (56, .bipush 10), (58, .if_icmp .ge 45), (61, .aload_n 0), (62, .getfield 18)], [(65, .iload_n 2), (66, .aload_n 1), (67, .getfield 18), (70, .iload_n 2), (71, .iaload), (72, .iastore), (73, .aload_n 0), (74, .getfield 21), (77, .iload_n 2), (78, .aload_n 1), (79, .getfield 21)], [(82, .iload_n 2), (83, .iaload), (84, .iastore), (85, .aload_n 0), (86, .getfield 24), (89, .iload_n 2), (90, .aload_n 1), (91, .getfield 24), (94, .iload_n 2), (95, .iaload)], [(96, .iastore), (97, .iinc 2 1), (100, .goto (-45)), (103, .aload_n 0), (104, .aload_n 1), (105, .getfield 27), (108, .putfield 27), (111, .return_)]]
def k59 : xK := [[(0, .iload_n 1), (1, .ifCond .lt 15), (4, .iload_n 1), (5, .aload_n 0), (6, .getfield 27), (9, .if_icmp .ge 7), (12, .iconst 1), (13, .goto 4)], [(16, .iconst 0), (17, .ireturn)]]
def k60 : xK := [[(0, .aload_n 0), (1, .getfield 27), (4, .bipush 10), (6, .if_icmp .lt 6), (9, .bipush (-3)), (11, .ireturn), (12, .aload_n 0), (13, .getfield 18)], [(16, .aload_n 0), (17, .getfield 27), (20, .iload_n 1), (21, .iastore), (22, .aload_n 0), (23, .getfield 21), (26, .aload_n 0), (27, .getfield 27), (30, .iload_n 2), (31, .iastore)], [(32, .aload_n 0), (33, .getfield 24), (36, .aload_n 0), (37, .getfield 27), (40, .iload_n 3), (41, .iastore), (42, .aload_n 0), (43, .dup), (44, .getfield 27), (47, .iconst 1)], [(48, .iadd), (49, .putfield 27), (52, .aload_n 0), (53, .getfield 27), (56, .iconst 1), (57, .isub), (58, .ireturn)]]
def k61 : xK := [[(0, .iload_n 2), (1, .istore 5), (3, .iload 5), (5, .iload_n 3), (6, .if_icmp .gt 23), (9, .aload_n 0), (10, .getfield 15), (13, .iload_n 1), (14, .bipush 30)], [(16, .imul), (17, .iload 5), (19, .iadd), (20, .iload 4), (22, .iastore), (23, .iinc 5 1), (26, .goto (-23)), (29, .iload_n 3), (30, .iload_n 2), (31, .isub)], [(32, .iconst 1), (33, .iadd), (34, .ireturn)]]
def k62 : xK := [[(0, .aload_n 0), (1, .getfield 15), (4, .iload_n 1), (5, .bipush 30), (7, .imul), (8, .iload_n 2), (9, .iadd), (10, .iaload), (11, .ireturn)]]
def k63 : xK := [[(0, .iconst 0), (1, .istore_n 3), (2, .iload_n 3), (3, .bipush 30), (5, .if_icmp .ge 42), (8, .aload_n 0), (9, .iload_n 1), (10, .iload_n 3), (11, .invokevirtual 31), (14, .istore 4)], [(16, .iload 4), (18, .iconst (-1)), (19, .if_icmp .eq 22), (22, .iload 4), (24, .aload_n 0), (25, .iload_n 2), (26, .iload_n 3), (27, .invokevirtual 31), (30, .if_icmp .eq 11)], [(33, .bipush 10), (35, .iload_n 3), (36, .imul), (37, .iload 4), (39, .iadd), (40, .ireturn), (41, .iinc 3 1), (44, .goto (-42)), (47, .bipush (-2))], [(49, .ireturn)]]
def k64 : xK := [[(0, .iconst 0), (1, .istore_n 3), (2, .iconst 0), (3, .istore 4), (5, .iload 4), (7, .bipush 30), (9, .if_icmp .ge 29), (12, .aload_n 0), (13, .iload_n 1), (14, .iload 4)], [(16, .invokevirtual 31), (19, .aload_n 0), (20, .iload_n 2), (21, .iload 4), (23, .invokevirtual 31), (26, .if_icmp .eq 6), (29, .iinc 3 1)], [(32, .iinc 4 1), (35, .goto (-30)), (38, .iload_n 3), (39, .ireturn)]]
def k65 : xK := [[(0, .aload_n 0), (1, .invokespecial 3), (4, .aload_n 0), (5, .bipush 6), (7, .newarray .int), (9, .putfield 11), (12, .aload_n 0), (13, .bipush 6), (15, .newarray .int)], [(17, .putfield 15), (20, .aload_n 0), (21, .bipush 6), (23, .newarray .int), (25, .putfield 18), (28, .aload_n 0), (29, .bipush 6), (31, .newarray .int)], [(33, .putfield 21), (36, .aload_n 0), (37, .sipush 360), (40, .newarray .long), (42, .putfield 24), (45, .return_)]]
def k66 : xK := [[(0, .iload_n 1), (1, .ifCond .lt 13), (4, .iload_n 1), (5, .bipush 6), (7, .if_icmp .ge 7), (10, .iconst 1), (11, .goto 4), (14, .iconst 0), (15, .ireturn)]]
def k67 : xK := [[(0, .iload_n 1), (1, .ifCond .lt 12), (4, .iload_n 1), (5, .iconst 4), (6, .if_icmp .gt 7), (9, .iconst 1), (10, .goto 4), (13, .iconst 0), (14, .ireturn)]]
def k68 : xK := [[(0, .aload_n 0), (1, .getfield 11), (4, .iload_n 1), (5, .iaload), (6, .ifCond .ne 7), (9, .iconst 1), (10, .goto 4), (13, .iconst 0), (14, .ireturn)]]
def k69 : xK := [[(0, .aload_n 0), (1, .getfield 11), (4, .iload_n 1), (5, .iaload), (6, .iconst 2), (7, .if_icmp .ne 17), (10, .aload_n 0), (11, .getfield 18), (14, .iload_n 1), (15, .iaload)], [(16, .iload_n 2), (17, .if_icmp .ne 7), (20, .iconst 1), (21, .goto 4), (24, .iconst 0), (25, .ireturn)]]
def k70 : xK := [[(0, .aload_n 0), (1, .getfield 21), (4, .iload_n 1), (5, .iaload), (6, .ireturn)]]
def k71 : xK := [[(0, .aload_n 0), (1, .getfield 11), (4, .iload_n 1), (5, .iaload), (6, .iconst 1), (7, .if_icmp .ne 12), (10, .aload_n 0), (11, .getfield 15), (14, .iload_n 1), (15, .iaload)], [(16, .goto 4), (19, .iconst (-1)), (20, .ireturn)]]
def k72 : xK := [[(0, .aload_n 0), (1, .getfield 11), (4, .iload_n 1), (5, .iload_n 2), (6, .iconst (-1)), (7, .if_icmp .ne 7), (10, .iconst 0), (11, .goto 4), (14, .iconst 1), (15, .iastore)], [(16, .aload_n 0), (17, .getfield 15), (20, .iload_n 1), (21, .iload_n 2), (22, .iastore), (23, .iconst 1), (24, .ireturn)]]
def k73 : xK := [[(0, .aload_n 0), (1, .getfield 11), (4, .iload_n 1), (5, .iconst 2), (6, .iastore), (7, .aload_n 0), (8, .getfield 18), (11, .iload_n 1), (12, .iload_n 2), (13, .iastore), (14, .aload_n 0), (15, .getfield 21)], [(18, .iload_n 1), (19, .iload_n 3), (20, .iastore), (21, .iconst 0), (22, .istore 4), (24, .iload 4), (26, .bipush 60), (28, .if_icmp .ge 22), (31, .aload_n 0)], [(32, .getfield 24), (35, .iload_n 1), (36, .bipush 60), (38, .imul), (39, .iload 4), (41, .iadd), (42, .lconst 0), (43, .lastore), (44, .iinc 4 1), (47, .goto (-23))], [(50, .iconst 1), (51, .ireturn)]]
def k74 : xK := [[(0, .aload_n 0), (1, .iload_n 1), (2, .invokevirtual 28), (5, .ifCond .ne 5), (8, .iconst (-1)), (9, .ireturn), (10, .aload_n 0), (11, .getfield 11), (14, .iload_n 1), (15, .iaload)], [(16, .ifCond .ne 6), (19, .bipush (-11)), (21, .ireturn), (22, .aload_n 0), (23, .getfield 11), (26, .iload_n 1), (27, .iaload), (28, .iconst 2), (29, .if_icmp .eq 6)], [(32, .bipush (-12)), (34, .ireturn), (35, .iload_n 2), (36, .ifCond .lt 17), (39, .iload_n 2), (40, .aload_n 0), (41, .getfield 21), (44, .iload_n 1), (45, .iaload), (46, .if_icmp .ge 7)], [(49, .iconst 0), (50, .goto 5), (53, .bipush (-13)), (55, .ireturn)]]
def k75 : xK := [[(0, .aload_n 0), (1, .getfield 24), (4, .iload_n 1), (5, .bipush 60), (7, .imul), (8, .iload_n 2), (9, .iadd), (10, .laload), (11, .lreturn)]]
def k76 : xK := [[(0, .aload_n 0), (1, .getfield 24), (4, .iload_n 1), (5, .bipush 60), (7, .imul), (8, .iload_n 2), (9, .iadd), (10, .aload_n 0), (11, .getfield 18), (14, .iload_n 1), (15, .iaload)], [(16, .lload_n 3), (17, .invokestatic 32), (20, .lastore), (21, .return_)]]
def k77 : xK := [[(0, .iload_n 0), (1, .tableswitch 61 0 4 #[35, 40, 45, 61, 49])], [], [(36, .lload_n 1), (37, .l2i), (38, .i2b), (39, .i2l), (40, .lreturn), (41, .lload_n 1), (42, .l2i), (43, .i2s), (44, .i2l), (45, .lreturn), (46, .lload_n 1), (47, .l2i)], [(48, .i2l), (49, .lreturn), (50, .lload_n 1), (51, .lconst 0), (52, .lcmp), (53, .ifCond .eq 7), (56, .lconst 1), (57, .goto 4), (60, .lconst 0), (61, .lreturn), (62, .lload_n 1), (63, .lreturn)]]
def k78 : xK := [[(0, .aload_n 0), (1, .getfield 11), (4, .iload_n 1), (5, .iaload), (6, .ifCond .eq 12), (9, .aload_n 0), (10, .getfield 11), (13, .iload_n 3), (14, .iaload), (15, .ifCond .ne 6)], [(18, .bipush (-11)), (20, .ireturn), (21, .aload_n 0), (22, .getfield 11), (25, .iload_n 1), (26, .iaload), (27, .iconst 2), (28, .if_icmp .ne 17), (31, .aload_n 0)], [(32, .iload_n 3), (33, .aload_n 0), (34, .getfield 18), (37, .iload_n 1), (38, .iaload), (39, .invokevirtual 36), (42, .ifCond .ne 6), (45, .bipush (-12)), (47, .ireturn)], [(48, .iload 5), (50, .ifCond .lt 26), (53, .aload_n 0), (54, .iload_n 1), (55, .iload_n 2), (56, .iload 5), (58, .invokevirtual 40), (61, .ifCond .eq 15)], [(64, .aload_n 0), (65, .iload_n 3), (66, .iload 4), (68, .iload 5), (70, .invokevirtual 40), (73, .ifCond .ne 6), (76, .bipush (-13)), (78, .ireturn), (79, .aload_n 0)], [(80, .getfield 24), (83, .iload_n 1), (84, .bipush 60), (86, .imul), (87, .iload_n 2), (88, .iadd), (89, .aload_n 0), (90, .getfield 24), (93, .iload_n 3), (94, .bipush 60)], [(96, .imul), (97, .iload 4), (99, .iadd), (100, .iload 5), (102, .invokestatic 44), (105, .iload 5), (107, .ireturn)]]
def k79 : xK := [[(0, .iload_n 2), (1, .ifCond .lt 19), (4, .iload_n 2), (5, .aload_n 0), (6, .getfield 21), (9, .iload_n 1), (10, .iaload), (11, .iload_n 3), (12, .isub), (13, .if_icmp .gt 7)], [(16, .iconst 1), (17, .goto 4), (20, .iconst 0), (21, .ireturn)]]
def k80 : xK := [[(0, .aload_n 0), (1, .invokespecial 3), (4, .aload_n 0), (5, .bipush 10), (7, .newarray .int), (9, .putfield 9), (12, .aload_n 0), (13, .bipush 10), (15, .newarray .int)], [(17, .putfield 15), (20, .aload_n 0), (21, .aload_n 1), (22, .putfield 18), (25, .aload_n 0), (26, .aload_n 2), (27, .putfield 22), (30, .aload_n 0), (31, .aload_n 3)], [(32, .putfield 26), (35, .return_)]]
def k81 : xK := [[(0, .aload_n 0), (1, .getfield 26), (4, .invokevirtual 30), (7, .iconst 0), (8, .istore_n 1), (9, .iload_n 1), (10, .bipush 30), (12, .if_icmp .ge 28), (15, .aload_n 0)], [(16, .iload_n 1), (17, .invokevirtual 35), (20, .istore_n 2), (21, .iload_n 2), (22, .bipush (-2)), (24, .if_icmp .eq 10), (27, .bipush 100), (29, .iload_n 1), (30, .imul), (31, .iload_n 2)], [(32, .iadd), (33, .ireturn), (34, .iinc 1 1), (37, .goto (-28)), (40, .bipush (-2)), (42, .ireturn)]]
def k82 : xK := [[(0, .iconst 0), (1, .istore_n 2), (2, .iload_n 2), (3, .aload_n 0), (4, .getfield 22), (7, .getfield 39), (10, .if_icmp .ge 102), (13, .aload_n 0), (14, .getfield 18)], [(17, .iload_n 2), (18, .iload_n 1), (19, .invokevirtual 45), (22, .istore_n 3), (23, .iload_n 3), (24, .iconst (-1)), (25, .if_icmp .ne 6), (28, .goto 78), (31, .iload_n 2)], [(32, .iconst 1), (33, .iadd), (34, .istore 4), (36, .iload 4), (38, .aload_n 0), (39, .getfield 22), (42, .getfield 39), (45, .if_icmp .ge 61)], [(48, .aload_n 0), (49, .getfield 26), (52, .getfield 51), (55, .iload_n 2), (56, .iaload), (57, .iload 4), (59, .ishr), (60, .iconst 1), (61, .iand), (62, .iconst 1), (63, .if_icmp .ne 7)], [(66, .iconst 1), (67, .goto 4), (70, .iconst 0), (71, .istore 5), (73, .iload 5), (75, .ifCond .eq 25), (78, .aload_n 0), (79, .getfield 18)], [(82, .iload 4), (84, .iload_n 1), (85, .invokevirtual 45), (88, .iload_n 3), (89, .if_icmp .ne 11), (92, .bipush 10), (94, .iload_n 2), (95, .imul)], [(96, .iload 4), (98, .iadd), (99, .ireturn), (100, .iinc 4 1), (103, .goto (-67)), (106, .iinc 2 1), (109, .goto (-107))], [(112, .bipush (-2)), (114, .ireturn)]]
def k83 : xK := [[(0, .iconst 0), (1, .istore_n 2), (2, .iload_n 2), (3, .aload_n 0), (4, .getfield 18), (7, .getfield 54), (10, .if_icmp .ge 64), (13, .aload_n 0), (14, .getfield 15)], [(17, .iload_n 2), (18, .iconst 0), (19, .iastore), (20, .aload_n 0), (21, .getfield 9), (24, .iload_n 2), (25, .iconst 0), (26, .iastore), (27, .iconst 0), (28, .istore_n 3), (29, .iload_n 3), (30, .aload_n 0), (31, .getfield 18)], [(34, .getfield 54), (37, .if_icmp .ge 31), (40, .aload_n 0), (41, .iload_n 2), (42, .iload_n 3), (43, .iload_n 1), (44, .invokevirtual 57), (47, .ifCond .eq 15)], [(50, .aload_n 0), (51, .getfield 9), (54, .iload_n 2), (55, .dup2), (56, .iaload), (57, .iconst 1), (58, .iload_n 3), (59, .ishl), (60, .ior), (61, .iastore), (62, .iinc 3 1)], [(65, .goto (-36)), (68, .iinc 2 1), (71, .goto (-69)), (74, .aload_n 0), (75, .bipush 11), (77, .putfield 61)], [(80, .aload_n 0), (81, .iconst 0), (82, .iconst 0), (83, .invokevirtual 64), (86, .aload_n 0), (87, .getfield 61), (90, .ireturn)]]
def k84 : xK := [[(0, .aload_n 0), (1, .getfield 18), (4, .getfield 68), (7, .iload_n 1), (8, .iaload), (9, .aload_n 0), (10, .getfield 18), (13, .getfield 68)], [(16, .iload_n 2), (17, .iaload), (18, .ixor), (19, .istore 4), (21, .iload 4), (23, .invokestatic 71), (26, .iload_n 3), (27, .if_icmp .le 5), (30, .iconst 1), (31, .ireturn)], [(32, .aload_n 0), (33, .getfield 18), (36, .getfield 76), (39, .iload_n 1), (40, .iaload), (41, .aload_n 0), (42, .getfield 18), (45, .getfield 76)], [(48, .iload_n 2), (49, .iaload), (50, .if_icmp .eq 5), (53, .iconst 0), (54, .ireturn), (55, .iload 4), (57, .ifCond .ne 24), (60, .aload_n 0), (61, .getfield 18)], [(64, .getfield 79), (67, .iload_n 1), (68, .iaload), (69, .aload_n 0), (70, .getfield 18), (73, .getfield 79), (76, .iload_n 2), (77, .iaload), (78, .if_icmp .eq 7)], [(81, .iconst 1), (82, .goto 4), (85, .iconst 0), (86, .ireturn)]]
def k85 : xK := [[(0, .iload_n 2), (1, .aload_n 0), (2, .getfield 61), (5, .if_icmp .lt 4), (8, .return_), (9, .iload_n 1), (10, .aload_n 0), (11, .getfield 18), (14, .getfield 54)], [(17, .if_icmp .lt 9), (20, .aload_n 0), (21, .iload_n 2), (22, .putfield 61), (25, .return_), (26, .iconst 0), (27, .istore_n 3), (28, .iload_n 3), (29, .iload_n 2), (30, .if_icmp .gt 38)], [(33, .iload_n 3), (34, .bipush 10), (36, .if_icmp .ge 32), (39, .aload_n 0), (40, .getfield 15), (43, .iload_n 3), (44, .iaload), (45, .aload_n 0), (46, .getfield 9)], [(49, .iload_n 1), (50, .iaload), (51, .iand), (52, .ifCond .ne 10), (55, .aload_n 0), (56, .iload_n 3), (57, .iload_n 1), (58, .iload_n 2), (59, .invokevirtual 82), (62, .iinc 3 1)], [(65, .goto (-37)), (68, .return_)]]
def k86 : xK := [[(0, .aload_n 0), (1, .getfield 15), (4, .iload_n 1), (5, .dup2), (6, .iaload), (7, .iconst 1), (8, .iload_n 2), (9, .ishl), (10, .ior), (11, .iastore), (12, .aload_n 0), (13, .iload_n 2), (14, .iconst 1), (15, .iadd)], [(16, .iload_n 1), (17, .iload_n 3), (18, .if_icmp .ne 9), (21, .iload_n 3), (22, .iconst 1), (23, .iadd), (24, .goto 4), (27, .iload_n 3), (28, .invokevirtual 64), (31, .aload_n 0)], [(32, .getfield 15), (35, .iload_n 1), (36, .dup2), (37, .iaload), (38, .iconst 1), (39, .iload_n 2), (40, .ishl), (41, .iconst (-1)), (42, .ixor), (43, .iand), (44, .iastore), (45, .return_)]]
def k87 : xK := [[(0, .iconst 0), (1, .istore_n 2), (2, .iconst 0), (3, .istore_n 3), (4, .iload_n 3), (5, .aload_n 0), (6, .getfield 22), (9, .getfield 39), (12, .if_icmp .ge 32), (15, .aload_n 0)], [(16, .iload_n 3), (17, .aload_n 0), (18, .getfield 18), (21, .getfield 68), (24, .iload_n 1), (25, .iaload), (26, .invokevirtual 86), (29, .ifCond .eq 9)], [(32, .iload_n 2), (33, .iconst 1), (34, .iload_n 3), (35, .ishl), (36, .ior), (37, .istore_n 2), (38, .iinc 3 1), (41, .goto (-37)), (44, .iload_n 2), (45, .ireturn)]]
def k88 : xK := [[(0, .aload_n 0), (1, .getfield 22), (4, .iload_n 1), (5, .invokevirtual 90), (8, .iload_n 2), (9, .if_icmp .ne 5), (12, .iconst 1), (13, .ireturn), (14, .iconst (-1)), (15, .istore_n 3)], [(16, .iload_n 3), (17, .bipush 6), (19, .if_icmp .ge 36), (22, .aload_n 0), (23, .getfield 22), (26, .iload_n 1), (27, .iload_n 3), (28, .invokevirtual 93), (31, .ifCond .eq 18)], [(34, .aload_n 0), (35, .getfield 22), (38, .iload_n 1), (39, .iload_n 3), (40, .invokevirtual 96), (43, .iload_n 2), (44, .if_icmp .ne 5), (47, .iconst 1)], [(48, .ireturn), (49, .iinc 3 1), (52, .goto (-36)), (55, .iconst 0), (56, .ireturn)]]
def k89 : xK := [[(0, .iconst 0), (1, .istore_n 2), (2, .iconst 0), (3, .istore_n 3), (4, .iload_n 3), (5, .aload_n 0), (6, .getfield 18), (9, .getfield 54), (12, .if_icmp .ge 30), (15, .aload_n 0)], [(16, .getfield 18), (19, .getfield 76), (22, .iload_n 3), (23, .iaload), (24, .iload_n 1), (25, .if_icmp .lt 11), (28, .iload_n 2), (29, .aload_n 0), (30, .iload_n 3), (31, .invokevirtual 99)], [(34, .ior), (35, .istore_n 2), (36, .iinc 3 1), (39, .goto (-35)), (42, .aload_n 0), (43, .getfield 22), (46, .invokevirtual 102)], [(49, .iload_n 2), (50, .iconst (-1)), (51, .ixor), (52, .iand), (53, .ireturn)]]
def k90 : xK := [[(0, .aload_n 0), (1, .getfield 26), (4, .invokevirtual 30), (7, .iconst 0), (8, .istore_n 2), (9, .iconst 0), (10, .istore_n 3), (11, .iload_n 3), (12, .aload_n 0), (13, .getfield 22)], [(16, .getfield 39), (19, .if_icmp .ge 40), (22, .iload_n 1), (23, .iload_n 3), (24, .ishr), (25, .iconst 1), (26, .iand), (27, .iconst 1), (28, .if_icmp .ne 25), (31, .aload_n 0)], [(32, .getfield 26), (35, .getfield 51), (38, .iload_n 3), (39, .iaload), (40, .iload_n 1), (41, .iconst (-1)), (42, .ixor), (43, .iand), (44, .ifCond .eq 9), (47, .iload_n 2)], [(48, .iconst 1), (49, .iload_n 3), (50, .ishl), (51, .ior), (52, .istore_n 2), (53, .iinc 3 1), (56, .goto (-45)), (59, .iload_n 2), (60, .ireturn)]]
def k91 : xK := [[(0, .aload_n 0), (1, .invokespecial 3), (4, .aload_n 0), (5, .new 9), (8, .dup), (9, .invokespecial 11), (12, .putfield 12), (15, .aload_n 0)], [(16, .bipush 120), (18, .newarray .int), (20, .putfield 18), (23, .return_)]]
def k92 : xK := [[(0, .aload_n 0), (1, .getfield 22), (4, .bipush 120), (6, .if_icmp .lt 6), (9, .bipush (-3)), (11, .ireturn), (12, .aload_n 0), (13, .getfield 18)], [(16, .aload_n 0), (17, .getfield 22), (20, .iload_n 1), (21, .iastore), (22, .aload_n 0), (23, .dup), (24, .getfield 22), (27, .iconst 1), (28, .iadd), (29, .putfield 22)], [(32, .aload_n 0), (33, .getfield 22), (36, .ireturn)]]
def k93 : xK := [[(0, .aload_n 0), (1, .iconst 0), (2, .putfield 26), (5, .aload_n 0), (6, .getfield 12), (9, .iconst 0), (10, .putfield 29), (13, .iconst 1), (14, .istore_n 1), (15, .iconst 0)], [(16, .istore_n 2), (17, .iload_n 2), (18, .bipush 120), (20, .if_icmp .gt 29), (23, .iload_n 1), (24, .ifCond .eq 25), (27, .aload_n 0), (28, .invokevirtual 30), (31, .ifCond .ne 5)], [(34, .iconst 0), (35, .ireturn), (36, .aload_n 0), (37, .bipush 59), (39, .invokevirtual 34), (42, .istore_n 1), (43, .iinc 2 1), (46, .goto (-29))], [(49, .aload_n 0), (50, .getfield 26), (53, .aload_n 0), (54, .getfield 22), (57, .if_icmp .ne 7), (60, .iconst 1), (61, .goto 4)], [(64, .iconst 0), (65, .ireturn)]]
def k94 : xK := [[(0, .aload_n 0), (1, .getfield 26), (4, .aload_n 0), (5, .getfield 22), (8, .if_icmp .ge 15), (11, .aload_n 0), (12, .getfield 18), (15, .aload_n 0)], [(16, .getfield 26), (19, .iaload), (20, .goto 4), (23, .iconst (-1)), (24, .ireturn)]]
def k95 : xK := [[(0, .aload_n 0), (1, .invokevirtual 38), (4, .iload_n 1), (5, .if_icmp .eq 5), (8, .iconst 0), (9, .ireturn), (10, .aload_n 0), (11, .dup), (12, .getfield 26), (15, .iconst 1)], [(16, .iadd), (17, .putfield 26), (20, .iconst 1), (21, .ireturn)]]
def k96 : xK := [[(0, .aload_n 0), (1, .iconst 0), (2, .invokevirtual 42), (5, .ifCond .ne 5), (8, .iconst 0), (9, .ireturn), (10, .aload_n 0), (11, .bipush 63), (13, .invokevirtual 34)], [(16, .ifCond .eq 52), (19, .aload_n 0), (20, .getfield 12), (23, .getfield 29), (26, .istore_n 1), (27, .aload_n 0), (28, .getfield 12), (31, .bipush 63)], [(33, .iconst 0), (34, .invokevirtual 45), (37, .aload_n 0), (38, .iconst 0), (39, .invokevirtual 42), (42, .ifCond .ne 5), (45, .iconst 0), (46, .ireturn), (47, .aload_n 0)], [(48, .getfield 12), (51, .bipush 59), (53, .iconst 0), (54, .invokevirtual 45), (57, .aload_n 0), (58, .getfield 12), (61, .iload_n 1), (62, .invokevirtual 49)], [(65, .goto 13), (68, .aload_n 0), (69, .getfield 12), (72, .bipush 59), (74, .iconst 0), (75, .invokevirtual 45), (78, .iconst 1), (79, .ireturn)]]
def k97 : xK := [[(0, .aload_n 0), (1, .iload_n 1), (2, .invokevirtual 53), (5, .ifCond .ne 5), (8, .iconst 0), (9, .ireturn), (10, .iconst 0), (11, .istore_n 2), (12, .iload_n 2), (13, .bipush 120), (15, .if_icmp .ge 38)], [(18, .aload_n 0), (19, .bipush 124), (21, .invokevirtual 34), (24, .ifCond .eq 29), (27, .aload_n 0), (28, .iload_n 1), (29, .invokevirtual 53)], [(32, .ifCond .ne 5), (35, .iconst 0), (36, .ireturn), (37, .aload_n 0), (38, .getfield 12), (41, .bipush 124), (43, .iconst 0), (44, .invokevirtual 45), (47, .iinc 2 1)], [(50, .goto (-38)), (53, .iconst 1), (54, .ireturn)]]
def k98 : xK := [[(0, .aload_n 0), (1, .iload_n 1), (2, .invokevirtual 56), (5, .ifCond .ne 5), (8, .iconst 0), (9, .ireturn), (10, .iconst 0), (11, .istore_n 2), (12, .iload_n 2), (13, .bipush 120), (15, .if_icmp .ge 38)], [(18, .aload_n 0), (19, .bipush 38), (21, .invokevirtual 34), (24, .ifCond .eq 29), (27, .aload_n 0), (28, .iload_n 1), (29, .invokevirtual 56)], [(32, .ifCond .ne 5), (35, .iconst 0), (36, .ireturn), (37, .aload_n 0), (38, .getfield 12), (41, .bipush 38), (43, .iconst 0), (44, .invokevirtual 45), (47, .iinc 2 1)], [(50, .goto (-38)), (53, .iconst 1), (54, .ireturn)]]
def k99 : xK := [[(0, .aload_n 0), (1, .iload_n 1), (2, .invokevirtual 59), (5, .ifCond .ne 5), (8, .iconst 0), (9, .ireturn), (10, .aload_n 0), (11, .invokevirtual 38), (14, .istore_n 2), (15, .iload_n 2)], [(16, .bipush 60), (18, .if_icmp .eq 17), (21, .iload_n 2), (22, .bipush 61), (24, .if_icmp .eq 11), (27, .iload_n 2), (28, .bipush 62), (30, .if_icmp .eq 5)], [(33, .iconst 1), (34, .ireturn), (35, .aload_n 0), (36, .dup), (37, .getfield 26), (40, .iconst 1), (41, .iadd), (42, .putfield 26), (45, .aload_n 0), (46, .iload_n 1), (47, .invokevirtual 59)], [(50, .ifCond .ne 5), (53, .iconst 0), (54, .ireturn), (55, .aload_n 0), (56, .getfield 12), (59, .iload_n 2), (60, .iconst 0), (61, .invokevirtual 45)], [(64, .iconst 1), (65, .ireturn)]]
def k100 : xK := [[(0, .aload_n 0), (1, .iload_n 1), (2, .invokevirtual 62), (5, .ifCond .ne 5), (8, .iconst 0), (9, .ireturn), (10, .iconst 0), (11, .istore_n 2), (12, .iload_n 2), (13, .bipush 120), (15, .if_icmp .ge 57)], [(18, .aload_n 0), (19, .invokevirtual 38), (22, .istore_n 3), (23, .iload_n 3), (24, .bipush 43), (26, .if_icmp .eq 11), (29, .iload_n 3), (30, .bipush 45)], [(32, .if_icmp .eq 5), (35, .iconst 1), (36, .ireturn), (37, .aload_n 0), (38, .dup), (39, .getfield 26), (42, .iconst 1), (43, .iadd), (44, .putfield 26), (47, .aload_n 0)], [(48, .iload_n 1), (49, .invokevirtual 62), (52, .ifCond .ne 5), (55, .iconst 0), (56, .ireturn), (57, .aload_n 0), (58, .getfield 12), (61, .iload_n 3), (62, .iconst 0), (63, .invokevirtual 45)], [(66, .iinc 2 1), (69, .goto (-57)), (72, .iconst 1), (73, .ireturn)]]
def k101 : xK := [[(0, .aload_n 0), (1, .iload_n 1), (2, .invokevirtual 65), (5, .ifCond .ne 5), (8, .iconst 0), (9, .ireturn), (10, .iconst 0), (11, .istore_n 2), (12, .iload_n 2), (13, .bipush 120), (15, .if_icmp .ge 63)], [(18, .aload_n 0), (19, .invokevirtual 38), (22, .istore_n 3), (23, .iload_n 3), (24, .bipush 42), (26, .if_icmp .eq 17), (29, .iload_n 3), (30, .bipush 47)], [(32, .if_icmp .eq 11), (35, .iload_n 3), (36, .bipush 37), (38, .if_icmp .eq 5), (41, .iconst 1), (42, .ireturn), (43, .aload_n 0), (44, .dup), (45, .getfield 26)], [(48, .iconst 1), (49, .iadd), (50, .putfield 26), (53, .aload_n 0), (54, .iload_n 1), (55, .invokevirtual 65), (58, .ifCond .ne 5), (61, .iconst 0), (62, .ireturn), (63, .aload_n 0)], [(64, .getfield 12), (67, .iload_n 3), (68, .iconst 0), (69, .invokevirtual 45), (72, .iinc 2 1), (75, .goto (-63)), (78, .iconst 1), (79, .ireturn)]]
def k102 : xK := [[(0, .aload_n 0), (1, .invokevirtual 38), (4, .istore_n 2), (5, .iload_n 2), (6, .invokestatic 68), (9, .ifCond .eq 8), (12, .aload_n 0), (13, .invokevirtual 71)], [(16, .ireturn), (17, .iload_n 2), (18, .invokestatic 74), (21, .istore_n 3), (22, .iload_n 3), (23, .ifCond .lt 25), (26, .aload_n 0), (27, .dup), (28, .getfield 26), (31, .iconst 1)], [(32, .iadd), (33, .putfield 26), (36, .aload_n 0), (37, .getfield 12), (40, .bipush 97), (42, .iload_n 3), (43, .invokevirtual 45), (46, .iconst 1), (47, .ireturn)], [(48, .iload_n 2), (49, .bipush 40), (51, .if_icmp .eq 17), (54, .iload_n 2), (55, .bipush 33), (57, .if_icmp .eq 11), (60, .iload_n 2), (61, .bipush 45), (63, .if_icmp .eq 5)], [(66, .iconst 0), (67, .ireturn), (68, .iload_n 1), (69, .bipush 6), (71, .if_icmp .lt 5), (74, .iconst 0), (75, .ireturn), (76, .aload_n 0), (77, .dup), (78, .getfield 26)], [(81, .iconst 1), (82, .iadd), (83, .putfield 26), (86, .aload_n 0), (87, .iload_n 2), (88, .iload_n 1), (89, .iconst 1), (90, .iadd), (91, .invokevirtual 78), (94, .ireturn)]]
def k103 : xK := [[(0, .iload_n 1), (1, .bipush 40), (3, .if_icmp .ne 26), (6, .aload_n 0), (7, .iload_n 2), (8, .invokevirtual 42), (11, .ifCond .eq 16), (14, .aload_n 0), (15, .bipush 41)], [(17, .invokevirtual 34), (20, .ifCond .eq 7), (23, .iconst 1), (24, .goto 4), (27, .iconst 0), (28, .ireturn), (29, .aload_n 0), (30, .iload_n 2), (31, .invokevirtual 65)], [(34, .ifCond .ne 5), (37, .iconst 0), (38, .ireturn), (39, .aload_n 0), (40, .getfield 12), (43, .iload_n 1), (44, .bipush 33), (46, .if_icmp .ne 8)], [(49, .bipush 33), (51, .goto 5), (54, .bipush 126), (56, .iconst 0), (57, .invokevirtual 45), (60, .iconst 1), (61, .ireturn)]]
def k104 : xK := [[(0, .iconst 0), (1, .istore_n 1), (2, .iconst 0), (3, .istore_n 2), (4, .iload_n 2), (5, .iconst 4), (6, .if_icmp .ge 42), (9, .aload_n 0), (10, .invokevirtual 38), (13, .invokestatic 68)], [(16, .ifCond .eq 32), (19, .iload_n 1), (20, .bipush 10), (22, .imul), (23, .aload_n 0), (24, .invokevirtual 38), (27, .iadd), (28, .bipush 48), (30, .isub), (31, .istore_n 1)], [(32, .aload_n 0), (33, .dup), (34, .getfield 26), (37, .iconst 1), (38, .iadd), (39, .putfield 26), (42, .iinc 2 1), (45, .goto (-41))], [(48, .aload_n 0), (49, .getfield 12), (52, .bipush 48), (54, .iload_n 1), (55, .invokevirtual 45), (58, .iconst 1), (59, .ireturn)]]
def k105 : xK := [[(0, .iload_n 0), (1, .bipush 48), (3, .if_icmp .lt 13), (6, .iload_n 0), (7, .bipush 57), (9, .if_icmp .gt 7), (12, .iconst 1), (13, .goto 4)], [(16, .iconst 0), (17, .ireturn)]]
def k106 : xK := [[(0, .iload_n 0), (1, .tableswitch 79 97 109 #[69, 71, 79, 67, 77, 79, 79, 73, 79, 79, 79, 79, 75])], [], [], [], [(68, .iconst 0), (69, .ireturn), (70, .iconst 1), (71, .ireturn), (72, .iconst 2), (73, .ireturn), (74, .iconst 3), (75, .ireturn), (76, .iconst 4), (77, .ireturn), (78, .iconst 5), (79, .ireturn)], [(80, .iconst (-1)), (81, .ireturn)]]
def k107 : xK := [[(0, .aload_n 0), (1, .invokespecial 3), (4, .aload_n 0), (5, .bipush 50), (7, .newarray .int), (9, .putfield 11), (12, .aload_n 0), (13, .bipush 24), (15, .newarray .int)], [(17, .putfield 15), (20, .return_)]]
def k108 : xK := [[(0, .iload_n 0), (1, .ifCond .lt 13), (4, .iload_n 0), (5, .bipush 8), (7, .if_icmp .ge 7), (10, .iconst 1), (11, .goto 4), (14, .iconst 0), (15, .ireturn)]]
def k109 : xK := [[(0, .iload_n 0), (1, .istore_n 2), (2, .iconst 0), (3, .istore_n 3), (4, .iload_n 3), (5, .bipush 8), (7, .if_icmp .ge 20), (10, .iload_n 2), (11, .iload_n 1), (12, .if_icmp .eq 15), (15, .getstatic 18)], [(18, .iload_n 2), (19, .iaload), (20, .istore_n 2), (21, .iinc 3 1), (24, .goto (-20)), (27, .iload_n 2), (28, .iload_n 1), (29, .if_icmp .ne 7)], [(32, .iconst 1), (33, .goto 4), (36, .iconst 0), (37, .ireturn)]]
def k110 : xK := [[(0, .iload_n 1), (1, .ifCond .lt 15), (4, .iload_n 1), (5, .aload_n 0), (6, .getfield 21), (9, .if_icmp .ge 7), (12, .iconst 1), (13, .goto 4)], [(16, .iconst 0), (17, .ireturn)]]
def k111 : xK := [[(0, .aload_n 0), (1, .getfield 21), (4, .bipush 50), (6, .if_icmp .lt 6), (9, .bipush (-3)), (11, .ireturn), (12, .aload_n 0), (13, .getfield 11)], [(16, .aload_n 0), (17, .getfield 21), (20, .iload_n 1), (21, .iastore), (22, .aload_n 0), (23, .dup), (24, .getfield 21), (27, .iconst 1), (28, .iadd), (29, .putfield 21)], [(32, .aload_n 0), (33, .getfield 21), (36, .iconst 1), (37, .isub), (38, .ireturn)]]
def k112 : xK := [[(0, .aload_n 0), (1, .getfield 25), (4, .bipush 24), (6, .invokestatic 28), (9, .ireturn)]]
def k113 : xK := [[(0, .aload_n 0), (1, .iconst 0), (2, .putfield 25), (5, .aload_n 0), (6, .iload_n 1), (7, .invokevirtual 34), (10, .ifCond .eq 12), (13, .iload_n 2), (14, .ifCond .lt 8)], [(17, .iload_n 2), (18, .iconst 4), (19, .if_icmp .lt 5), (22, .iconst 0), (23, .ireturn), (24, .aload_n 0), (25, .iload_n 1), (26, .putfield 38), (29, .aload_n 0), (30, .iload_n 2), (31, .iload_n 3)], [(32, .iconst 0), (33, .invokevirtual 41), (36, .ireturn)]]
def k114 : xK := [[(0, .aload_n 0), (1, .aload_n 0), (2, .getfield 11), (5, .aload_n 0), (6, .getfield 38), (9, .iaload), (10, .iload_n 1), (11, .iload_n 2), (12, .iload_n 3), (13, .invokevirtual 45)], [(16, .ireturn)]]
def k115 : xK := [[(0, .iload 4), (2, .bipush 40), (4, .if_icmp .le 5), (7, .iconst 0), (8, .ireturn), (9, .iload_n 1), (10, .istore 5), (12, .iconst 0), (13, .istore 6), (15, .iload 6)], [(17, .bipush 8), (19, .if_icmp .ge 30), (22, .getstatic 49), (25, .iload 5), (27, .iconst 4), (28, .imul), (29, .iload_n 2), (30, .iadd), (31, .iaload)], [(32, .ifCond .ne 17), (35, .getstatic 18), (38, .iload 5), (40, .iaload), (41, .istore 5), (43, .iinc 6 1), (46, .goto (-31))], [(49, .getstatic 49), (52, .iload 5), (54, .iconst 4), (55, .imul), (56, .iload_n 2), (57, .iadd), (58, .iaload), (59, .istore 6), (61, .aload_n 0), (62, .getfield 25)], [(65, .bipush 24), (67, .if_icmp .ge 14), (70, .aload_n 0), (71, .getfield 15), (74, .aload_n 0), (75, .getfield 25), (78, .iload 6)], [(80, .iastore), (81, .aload_n 0), (82, .dup), (83, .getfield 25), (86, .iconst 1), (87, .iadd), (88, .putfield 25), (91, .aload_n 0), (92, .iload 6), (94, .iload_n 3), (95, .iload 4)], [(97, .iconst 1), (98, .iadd), (99, .invokevirtual 52), (102, .ireturn)]]
def k116 : xK := [[(0, .iload_n 1), (1, .lookupswitch 277 #[(1, 115), (2, 122), (10, 142), (11, 152), (20, 159), (30, 170), (40, 180), (41, 191), (50, 202), (60, 223), (70, 234), (80, 245), (81, 266)])], [], [], [], [], [], [], [(116, .iload_n 2), (117, .aload_n 0), (118, .getfield 38), (121, .iadd), (122, .ireturn), (123, .aload_n 0), (124, .iconst 1), (125, .iload_n 2), (126, .iload_n 3), (127, .invokevirtual 41)], [(130, .istore 4), (132, .iload 4), (134, .aload_n 0), (135, .iconst 2), (136, .iconst 1), (137, .iload_n 3), (138, .invokevirtual 41), (141, .isub), (142, .ireturn), (143, .aload_n 0)], [(144, .iconst 0), (145, .iload_n 2), (146, .iload_n 3), (147, .invokevirtual 41), (150, .iconst 2), (151, .imul), (152, .ireturn), (153, .iload_n 2), (154, .aload_n 0), (155, .getfield 38), (158, .ixor), (159, .ireturn)], [(160, .aload_n 0), (161, .iconst 0), (162, .iconst 0), (163, .iload_n 2), (164, .iload_n 3), (165, .invokevirtual 45), (168, .iconst 3), (169, .iadd), (170, .ireturn), (171, .aload_n 0), (172, .iconst 0), (173, .iconst 1), (174, .iload_n 2), (175, .iload_n 3)], [(176, .invokevirtual 45), (179, .ineg), (180, .ireturn), (181, .aload_n 0), (182, .iconst 2), (183, .iconst 2), (184, .iload_n 2), (185, .iload_n 3), (186, .invokevirtual 45), (189, .iconst 3), (190, .imul), (191, .ireturn)], [(192, .aload_n 0), (193, .iconst 2), (194, .iconst 1), (195, .iload_n 2), (196, .iconst 1), (197, .iadd), (198, .iload_n 3), (199, .invokevirtual 45), (202, .ireturn), (203, .aload_n 0), (204, .iconst 1), (205, .iconst 2), (206, .iload_n 2), (207, .iload_n 3)], [(208, .invokevirtual 45), (211, .istore 5), (213, .iload 5), (215, .aload_n 0), (216, .iconst 0), (217, .iconst 2), (218, .iload_n 3), (219, .invokevirtual 41), (222, .isub), (223, .ireturn)], [(224, .aload_n 0), (225, .iconst 3), (226, .iconst 3), (227, .iload_n 2), (228, .iload_n 3), (229, .invokevirtual 45), (232, .iconst 5), (233, .ixor), (234, .ireturn), (235, .aload_n 0), (236, .iconst 0), (237, .iconst 0), (238, .iload_n 2), (239, .iload_n 3)], [(240, .invokevirtual 45), (243, .iconst 2), (244, .imul), (245, .ireturn), (246, .aload_n 0), (247, .iconst 4), (248, .iconst 1), (249, .iload_n 2), (250, .iload_n 3), (251, .invokevirtual 45), (254, .istore 6)], [(256, .iload 6), (258, .aload_n 0), (259, .iconst 2), (260, .iconst 2), (261, .iload_n 3), (262, .invokevirtual 41), (265, .iadd), (266, .ireturn), (267, .aload_n 0), (268, .iconst 4), (269, .iconst 3), (270, .iload_n 2), (271, .iload_n 3)], [(272, .invokevirtual 45), (275, .iconst 1), (276, .isub), (277, .ireturn), (278, .iconst 0), (279, .ireturn)]]
def k117 : xK := [[(0, .aload_n 0), (1, .invokespecial 3), (4, .aload_n 0), (5, .sipush 343), (8, .newarray .int), (10, .putfield 11), (13, .aload_n 0), (14, .bipush 56)], [(16, .newarray .int), (18, .putfield 15), (21, .aload_n 0), (22, .bipush 7), (24, .newarray .int), (26, .putfield 18), (29, .aload_n 0), (30, .bipush 7)], [(32, .newarray .int), (34, .putfield 21), (37, .aload_n 0), (38, .aload_n 1), (39, .putfield 24), (42, .aload_n 0), (43, .aload_n 2), (44, .putfield 28), (47, .return_)]]
def k118 : xK := [[(0, .iconst 0), (1, .istore_n 1), (2, .iload_n 1), (3, .aload_n 0), (4, .getfield 24), (7, .getfield 32), (10, .if_icmp .ge 48), (13, .aload_n 0), (14, .getfield 15)], [(17, .iload_n 1), (18, .iconst 1), (19, .aload_n 0), (20, .getfield 24), (23, .getfield 38), (26, .iload_n 1), (27, .iaload), (28, .iconst 1), (29, .ishl), (30, .ior), (31, .iastore)], [(32, .iconst 0), (33, .istore_n 2), (34, .iload_n 2), (35, .bipush 7), (37, .if_icmp .ge 15), (40, .aload_n 0), (41, .iload_n 1), (42, .iload_n 2), (43, .invokevirtual 41), (46, .iinc 2 1)], [(49, .goto (-15)), (52, .iinc 1 1), (55, .goto (-53)), (58, .aload_n 0), (59, .bipush 8), (61, .putfield 45)], [(64, .aload_n 0), (65, .iconst 0), (66, .iconst 0), (67, .invokevirtual 48), (70, .aload_n 0), (71, .getfield 45), (74, .bipush 7), (76, .if_icmp .gt 7), (79, .iconst 1)], [(80, .goto 4), (83, .iconst 0), (84, .ireturn)]]
def k119 : xK := [[(0, .aload_n 0), (1, .getfield 24), (4, .iload_n 1), (5, .iload_n 2), (6, .iconst 1), (7, .isub), (8, .invokevirtual 51), (11, .ifCond .ne 4), (14, .return_), (15, .iload_n 1)], [(16, .iconst 1), (17, .iadd), (18, .istore_n 3), (19, .iload_n 3), (20, .aload_n 0), (21, .getfield 24), (24, .getfield 32), (27, .if_icmp .ge 92), (30, .iconst 0), (31, .istore 4)], [(33, .iconst 0), (34, .istore 5), (36, .iload 5), (38, .bipush 7), (40, .if_icmp .ge 55), (43, .aload_n 0), (44, .getfield 24), (47, .iload_n 3)], [(48, .iload 5), (50, .iconst 1), (51, .isub), (52, .invokevirtual 51), (55, .ifCond .ne 6), (58, .goto 31), (61, .aload_n 0), (62, .getfield 28)], [(65, .iload_n 1), (66, .iload_n 2), (67, .iconst 1), (68, .isub), (69, .iload_n 3), (70, .iload 5), (72, .iconst 1), (73, .isub), (74, .invokevirtual 55), (77, .ifCond .eq 12)], [(80, .iload 4), (82, .iconst 1), (83, .iload 5), (85, .ishl), (86, .ior), (87, .istore 4), (89, .iinc 5 1), (92, .goto (-56)), (95, .aload_n 0)], [(96, .getfield 11), (99, .iload_n 1), (100, .bipush 7), (102, .imul), (103, .iload_n 2), (104, .iadd), (105, .bipush 7), (107, .imul), (108, .iload_n 3), (109, .iadd), (110, .iload 4)], [(112, .iastore), (113, .iinc 3 1), (116, .goto (-97)), (119, .return_)]]
def k120 : xK := [[(0, .iload_n 2), (1, .aload_n 0), (2, .iload_n 1), (3, .invokevirtual 61), (6, .iadd), (7, .aload_n 0), (8, .getfield 45), (11, .if_icmp .lt 4), (14, .return_), (15, .iload_n 1)], [(16, .aload_n 0), (17, .getfield 24), (20, .getfield 32), (23, .if_icmp .lt 40), (26, .aload_n 0), (27, .iload_n 2), (28, .putfield 45), (31, .iconst 0)], [(32, .istore_n 3), (33, .iload_n 3), (34, .aload_n 0), (35, .getfield 24), (38, .getfield 32), (41, .if_icmp .ge 21), (44, .aload_n 0), (45, .getfield 21)], [(48, .iload_n 3), (49, .aload_n 0), (50, .getfield 18), (53, .iload_n 3), (54, .iaload), (55, .iastore), (56, .iinc 3 1), (59, .goto (-26)), (62, .return_), (63, .iconst 0)], [(64, .istore_n 3), (65, .iload_n 3), (66, .bipush 7), (68, .if_icmp .ge 35), (71, .aload_n 0), (72, .getfield 15), (75, .iload_n 1), (76, .bipush 7), (78, .imul), (79, .iload_n 1)], [(80, .iadd), (81, .iaload), (82, .iload_n 3), (83, .ishr), (84, .iconst 1), (85, .iand), (86, .iconst 1), (87, .if_icmp .ne 10), (90, .aload_n 0), (91, .iload_n 1), (92, .iload_n 3), (93, .iload_n 2), (94, .invokevirtual 65)], [(97, .iinc 3 1), (100, .goto (-35)), (103, .return_)]]
def k121 : xK := [[(0, .aload_n 0), (1, .getfield 18), (4, .iload_n 1), (5, .iload_n 2), (6, .iconst 1), (7, .isub), (8, .iastore), (9, .aload_n 0), (10, .iload_n 1), (11, .iload_n 2), (12, .invokevirtual 69), (15, .ifCond .eq 21)], [(18, .aload_n 0), (19, .iload_n 1), (20, .iconst 1), (21, .iadd), (22, .iload_n 2), (23, .ifCond .ne 7), (26, .iload_n 3), (27, .goto 6), (30, .iload_n 3), (31, .iconst 1)], [(32, .iadd), (33, .invokevirtual 48), (36, .return_)]]
def k122 : xK := [[(0, .iload_n 1), (1, .iconst 1), (2, .iadd), (3, .istore_n 3), (4, .iload_n 3), (5, .aload_n 0), (6, .getfield 24), (9, .getfield 32), (12, .if_icmp .ge 63), (15, .aload_n 0)], [(16, .getfield 15), (19, .iload_n 1), (20, .bipush 7), (22, .imul), (23, .iload_n 3), (24, .iadd), (25, .iaload), (26, .aload_n 0), (27, .getfield 11), (30, .iload_n 1), (31, .bipush 7)], [(33, .imul), (34, .iload_n 2), (35, .iadd), (36, .bipush 7), (38, .imul), (39, .iload_n 3), (40, .iadd), (41, .iaload), (42, .iconst (-1)), (43, .ixor), (44, .iand), (45, .istore 4), (47, .iload 4)], [(49, .ifCond .ne 5), (52, .iconst 0), (53, .ireturn), (54, .aload_n 0), (55, .getfield 15), (58, .iload_n 1), (59, .iconst 1), (60, .iadd), (61, .bipush 7), (63, .imul)], [(64, .iload_n 3), (65, .iadd), (66, .iload 4), (68, .iastore), (69, .iinc 3 1), (72, .goto (-68)), (75, .iconst 1), (76, .ireturn)]]
def k123 : xK := [[(0, .iconst 0), (1, .istore_n 2), (2, .iload_n 1), (3, .istore_n 3), (4, .iload_n 3), (5, .aload_n 0), (6, .getfield 24), (9, .getfield 32), (12, .if_icmp .ge 28), (15, .aload_n 0)], [(16, .getfield 15), (19, .iload_n 1), (20, .bipush 7), (22, .imul), (23, .iload_n 3), (24, .iadd), (25, .iaload), (26, .iconst 1), (27, .iand), (28, .ifCond .ne 6), (31, .iinc 2 1)], [(34, .iinc 3 1), (37, .goto (-33)), (40, .iload_n 2), (41, .ireturn)]]
def k124 : xK := [[(0, .aload_n 0), (1, .invokespecial 1), (4, .aload_n 0), (5, .new 7), (8, .dup), (9, .invokespecial 9), (12, .putfield 10), (15, .aload_n 0)], [(16, .new 7), (19, .dup), (20, .invokespecial 9), (23, .putfield 16), (26, .aload_n 0), (27, .new 19), (30, .dup), (31, .aload_n 0)], [(32, .getfield 10), (35, .invokespecial 21), (38, .putfield 24), (41, .aload_n 0), (42, .new 28), (45, .dup), (46, .invokespecial 30)], [(49, .putfield 31), (52, .aload_n 0), (53, .new 35), (56, .dup), (57, .invokespecial 37), (60, .putfield 38), (63, .aload_n 0)], [(64, .new 42), (67, .dup), (68, .aload_n 0), (69, .getfield 24), (72, .aload_n 0), (73, .getfield 31), (76, .invokespecial 44), (79, .putfield 47)], [(82, .aload_n 0), (83, .new 51), (86, .dup), (87, .aload_n 0), (88, .getfield 24), (91, .aload_n 0), (92, .getfield 47), (95, .invokespecial 53)], [(98, .putfield 56), (101, .aload_n 0), (102, .new 60), (105, .dup), (106, .aload_n 0), (107, .getfield 24), (110, .aload_n 0), (111, .getfield 47)], [(114, .invokespecial 62), (117, .putfield 63), (120, .aload_n 0), (121, .new 67), (124, .dup), (125, .aload_n 0), (126, .getfield 10)], [(129, .aload_n 0), (130, .getfield 24), (133, .aload_n 0), (134, .getfield 47), (137, .invokespecial 69), (140, .putfield 72), (143, .aload_n 0)], [(144, .new 76), (147, .dup), (148, .aload_n 0), (149, .getfield 24), (152, .invokespecial 78), (155, .putfield 81), (158, .aload_n 0), (159, .new 85)], [(162, .dup), (163, .invokespecial 87), (166, .putfield 88), (169, .aload_n 0), (170, .new 92), (173, .dup), (174, .invokespecial 94)], [(177, .putfield 95), (180, .return_)]]
def k125 : xK := [[(0, .iload_n 1), (1, .i2l), (2, .invokestatic 99), (5, .ifCond .eq 11), (8, .iload_n 2), (9, .i2l), (10, .invokestatic 99), (13, .ifCond .ne 5)], [(16, .iconst (-1)), (17, .ireturn), (18, .aload_n 0), (19, .getfield 24), (22, .iload_n 1), (23, .iload_n 2), (24, .invokevirtual 103), (27, .ireturn)]]
def k126 : xK := [[(0, .aload_n 0), (1, .getfield 95), (4, .iload_n 1), (5, .invokevirtual 107), (8, .ifCond .eq 14), (11, .iload_n 3), (12, .iconst 1), (13, .if_icmp .lt 9)], [(16, .iload_n 3), (17, .bipush 7), (19, .if_icmp .le 5), (22, .iconst (-1)), (23, .ireturn), (24, .aload_n 0), (25, .getfield 95), (28, .iload_n 1), (29, .invokevirtual 111)], [(32, .ifCond .eq 5), (35, .iconst 0), (36, .ireturn), (37, .aload_n 0), (38, .getfield 95), (41, .iload_n 1), (42, .iconst 0), (43, .invokevirtual 114), (46, .ifCond .ne 6)], [(49, .bipush (-12)), (51, .ireturn), (52, .aload_n 0), (53, .iload_n 1), (54, .iload_n 2), (55, .iload_n 3), (56, .invokevirtual 118), (59, .ireturn)]]
def k127 : xK := [[(0, .iload_n 2), (1, .ifCond .ge 5), (4, .iconst 0), (5, .ireturn), (6, .aload_n 0), (7, .getfield 95), (10, .iload_n 1), (11, .invokevirtual 122), (14, .istore 4)], [(16, .iconst 0), (17, .istore 5), (19, .iload_n 2), (20, .istore 6), (22, .iload 6), (24, .iload 4), (26, .iconst 1), (27, .isub), (28, .if_icmp .ge 84), (31, .iload 5)], [(33, .iload_n 3), (34, .if_icmp .ge 78), (37, .aload_n 0), (38, .getfield 95), (41, .iload_n 1), (42, .iload 6), (44, .invokevirtual 126), (47, .lstore 7)], [(49, .aload_n 0), (50, .getfield 95), (53, .iload_n 1), (54, .iload 6), (56, .iconst 1), (57, .iadd), (58, .invokevirtual 126), (61, .lstore 9), (63, .lload 7)], [(65, .invokestatic 99), (68, .ifCond .eq 11), (71, .lload 9), (73, .invokestatic 99), (76, .ifCond .ne 6), (79, .iload 5)], [(81, .ireturn), (82, .aload_n 0), (83, .getfield 24), (86, .lload 7), (88, .l2i), (89, .lload 9), (91, .l2i), (92, .invokevirtual 103), (95, .bipush (-3))], [(97, .if_icmp .ne 6), (100, .iload 5), (102, .ireturn), (103, .iinc 5 1), (106, .iinc 6 2), (109, .goto (-87))], [(112, .iload 5), (114, .ireturn)]]
def k128 : xK := [[(0, .aload_n 0), (1, .getfield 24), (4, .iload_n 1), (5, .invokevirtual 130), (8, .ifCond .eq 7), (11, .iload_n 2), (12, .ifCond .ge 5), (15, .iconst (-1))], [(16, .ireturn), (17, .iload_n 2), (18, .bipush 10), (20, .idiv), (21, .istore_n 3), (22, .iload_n 2), (23, .bipush 10), (25, .irem), (26, .istore 4), (28, .iload_n 3), (29, .iconst 5), (30, .if_icmp .ge 16)], [(33, .iload 4), (35, .iconst 1), (36, .if_icmp .lt 10), (39, .iload 4), (41, .bipush 6), (43, .if_icmp .le 5), (46, .iconst (-1)), (47, .ireturn)], [(48, .aload_n 0), (49, .getfield 24), (52, .iload_n 1), (53, .iload_n 3), (54, .iload 4), (56, .invokevirtual 133), (59, .ireturn)]]
def k129 : xK := [[(0, .aload_n 0), (1, .getfield 24), (4, .iload_n 1), (5, .invokevirtual 130), (8, .ifCond .ne 5), (11, .iconst (-1)), (12, .ireturn), (13, .aload_n 0), (14, .getfield 24)], [(17, .iload_n 1), (18, .invokevirtual 136), (21, .ireturn)]]
def k130 : xK := [[(0, .aload_n 0), (1, .getfield 24), (4, .iload_n 1), (5, .invokevirtual 130), (8, .ifCond .eq 15), (11, .aload_n 0), (12, .getfield 24), (15, .iload_n 1)], [(16, .iload_n 2), (17, .invokevirtual 139), (20, .ifCond .ne 6), (23, .ldc 142), (25, .ireturn), (26, .aload_n 0), (27, .getfield 24), (30, .iload_n 1), (31, .invokevirtual 143)], [(34, .istore_n 3), (35, .aload_n 0), (36, .getfield 10), (39, .getfield 146), (42, .iload_n 1), (43, .iload_n 2), (44, .iastore), (45, .iload_n 3), (46, .ireturn)]]
def k131 : xK := [[(0, .aload_n 0), (1, .iload_n 1), (2, .iload_n 2), (3, .iload_n 3), (4, .invokevirtual 150), (7, .ifCond .ne 5), (10, .iconst (-1)), (11, .ireturn), (12, .aload_n 0), (13, .getfield 24)], [(16, .iload_n 1), (17, .iload_n 2), (18, .invokevirtual 154), (21, .istore 4), (23, .iload 4), (25, .iload_n 3), (26, .if_icmp .eq 15), (29, .aload_n 0), (30, .getfield 81)], [(33, .iload_n 1), (34, .iload_n 2), (35, .iload 4), (37, .iload_n 3), (38, .invokevirtual 157), (41, .iload 4), (43, .ireturn)]]
def k132 : xK := [[(0, .iload_n 2), (1, .tableswitch 100 0 4 #[35, 35, 35, 60, 80])], [], [(36, .aload_n 0), (37, .getfield 24), (40, .iload_n 1), (41, .invokevirtual 130), (44, .ifCond .eq 15), (47, .iload_n 3)], [(48, .i2l), (49, .invokestatic 99), (52, .ifCond .eq 7), (55, .iconst 1), (56, .goto 4), (59, .iconst 0), (60, .ireturn), (61, .iload_n 1), (62, .ifCond .ne 17)], [(65, .iload_n 3), (66, .ifCond .lt 13), (69, .iload_n 3), (70, .bipush 6), (72, .if_icmp .gt 7), (75, .iconst 1), (76, .goto 4), (79, .iconst 0)], [(80, .ireturn), (81, .iload_n 1), (82, .ifCond .ne 17), (85, .iload_n 3), (86, .ifCond .lt 13), (89, .iload_n 3), (90, .bipush 12), (92, .if_icmp .ge 7), (95, .iconst 1)], [(96, .goto 4), (99, .iconst 0), (100, .ireturn), (101, .iconst 0), (102, .ireturn)]]
def k133 : xK := [[(0, .iload_n 2), (1, .ifCond .lt 32), (4, .iload_n 2), (5, .bipush 6), (7, .if_icmp .gt 26), (10, .aload_n 0), (11, .getfield 24), (14, .iload_n 1), (15, .invokevirtual 130)], [(18, .ifCond .eq 12), (21, .aload_n 0), (22, .iload_n 1), (23, .iload_n 2), (24, .invokevirtual 161), (27, .goto 5), (30, .ldc 142)], [(32, .ireturn), (33, .iload_n 2), (34, .bipush 20), (36, .if_icmp .lt 32), (39, .iload_n 2), (40, .bipush 22), (42, .if_icmp .gt 26), (45, .aload_n 0), (46, .getfield 10)], [(49, .iload_n 1), (50, .invokevirtual 164), (53, .ifCond .eq 12), (56, .aload_n 0), (57, .iload_n 1), (58, .iload_n 2), (59, .invokevirtual 167), (62, .goto 5)], [(65, .ldc 142), (67, .ireturn), (68, .iload_n 1), (69, .ifCond .eq 6), (72, .ldc 142), (74, .ireturn), (75, .iload_n 2), (76, .bipush 10), (78, .if_icmp .ne 11)], [(81, .aload_n 0), (82, .getfield 24), (85, .getfield 170), (88, .ireturn), (89, .iload_n 2), (90, .bipush 11), (92, .if_icmp .ne 13), (95, .aload_n 0)], [(96, .getfield 24), (99, .getfield 174), (102, .goto 5), (105, .ldc 142), (107, .ireturn)]]
def k134 : xK := [[(0, .iload_n 2), (1, .tableswitch 68 3 6 #[31, 40, 49, 59])], [], [(32, .aload_n 0), (33, .getfield 24), (36, .iload_n 1), (37, .invokevirtual 143), (40, .ireturn), (41, .aload_n 0), (42, .getfield 24), (45, .iload_n 1), (46, .invokevirtual 177)], [(49, .ireturn), (50, .aload_n 0), (51, .getfield 24), (54, .getfield 180), (57, .iload_n 1), (58, .iaload), (59, .ireturn), (60, .aload_n 0), (61, .getfield 24)], [(64, .iload_n 1), (65, .invokevirtual 183), (68, .ireturn), (69, .aload_n 0), (70, .getfield 24), (73, .iload_n 1), (74, .iload_n 2), (75, .invokevirtual 154), (78, .ireturn)]]
def k135 : xK := [[(0, .iload_n 2), (1, .lookupswitch 47 #[(20, 27), (21, 37)])], [(28, .aload_n 0), (29, .getfield 10)], [(32, .getfield 186), (35, .iload_n 1), (36, .iaload), (37, .ireturn), (38, .aload_n 0), (39, .getfield 10), (42, .getfield 189), (45, .iload_n 1), (46, .iaload), (47, .ireturn)], [(48, .aload_n 0), (49, .getfield 10), (52, .getfield 192), (55, .iload_n 1), (56, .iaload), (57, .ireturn)]]
def k136 : xK := [[(0, .iload_n 1), (1, .ifCond .lt 10), (4, .iload_n 1), (5, .sipush 255), (8, .if_icmp .le 5), (11, .iconst (-1)), (12, .ireturn), (13, .aload_n 0), (14, .getfield 38)], [(17, .iload_n 1), (18, .invokevirtual 195), (21, .ireturn)]]
def k137 : xK := [[(0, .aload_n 0), (1, .getfield 38), (4, .invokevirtual 198), (7, .istore_n 1), (8, .aload_n 0), (9, .getfield 38), (12, .getfield 202), (15, .istore_n 2)], [(16, .iload_n 1), (17, .ifCond .eq 17), (20, .aload_n 0), (21, .getfield 31), (24, .aload_n 0), (25, .getfield 38), (28, .getfield 205), (31, .invokevirtual 208)], [(34, .aload_n 0), (35, .getfield 38), (38, .iconst 0), (39, .putfield 212), (42, .iload_n 1), (43, .ifCond .eq 7), (46, .iconst 1), (47, .goto 7)], [(50, .bipush (-100)), (52, .iload_n 2), (53, .isub), (54, .ireturn)]]
def k138 : xK := [[(0, .aload_n 0), (1, .getfield 24), (4, .iload_n 1), (5, .invokevirtual 215), (8, .ifCond .ne 5), (11, .iconst (-1)), (12, .ireturn), (13, .aload_n 0), (14, .getfield 47)], [(17, .iload_n 1), (18, .bipush 10), (20, .idiv), (21, .iload_n 1), (22, .bipush 10), (24, .irem), (25, .iconst 0), (26, .invokevirtual 218), (29, .ifCond .eq 7)], [(32, .iconst 1), (33, .goto 4), (36, .iconst 0), (37, .ireturn)]]
def k139 : xK := [[(0, .aload_n 0), (1, .getfield 56), (4, .invokevirtual 221), (7, .aload_n 0), (8, .getfield 56), (11, .invokevirtual 224), (14, .aload_n 0), (15, .getfield 56)], [(18, .invokevirtual 227), (21, .ireturn)]]
def k140 : xK := [[(0, .aload_n 0), (1, .getfield 24), (4, .iload_n 1), (5, .invokevirtual 130), (8, .ifCond .eq 10), (11, .iload_n 2), (12, .invokestatic 231), (15, .ifCond .ne 6)], [(18, .ldc 142), (20, .ireturn), (21, .aload_n 0), (22, .getfield 56), (25, .invokevirtual 221), (28, .aload_n 0), (29, .getfield 56)], [(32, .iload_n 1), (33, .iload_n 2), (34, .invokevirtual 234), (37, .ireturn)]]
def k141 : xK := [[(0, .aload_n 0), (1, .getfield 24), (4, .iload_n 1), (5, .invokevirtual 130), (8, .ifCond .eq 12), (11, .iload_n 2), (12, .ifCond .lt 8), (15, .iload_n 2)], [(16, .iconst 1), (17, .if_icmp .le 5), (20, .iconst (-1)), (21, .ireturn), (22, .aload_n 0), (23, .getfield 56), (26, .invokevirtual 221), (29, .iload_n 2), (30, .ifCond .ne 13)], [(33, .aload_n 0), (34, .getfield 56), (37, .getfield 237), (40, .iload_n 1), (41, .iaload), (42, .ireturn), (43, .aload_n 0), (44, .getfield 56), (47, .getfield 240)], [(50, .iload_n 1), (51, .baload), (52, .ifCond .eq 7), (55, .iconst 1), (56, .goto 4), (59, .iconst 0), (60, .ireturn)]]
def k142 : xK := [[(0, .iload_n 1), (1, .iconst (-1)), (2, .if_icmp .lt 14), (5, .iload_n 1), (6, .aload_n 0), (7, .getfield 24), (10, .getfield 244), (13, .if_icmp .lt 5)], [(16, .iconst (-1)), (17, .ireturn), (18, .aload_n 0), (19, .getfield 56), (22, .invokevirtual 247), (25, .iload_n 1), (26, .ifCond .ge 13), (29, .aload_n 0), (30, .getfield 56)], [(33, .getfield 250), (36, .goto 12), (39, .aload_n 0), (40, .getfield 56), (43, .getfield 253), (46, .iload_n 1), (47, .iaload)], [(48, .ireturn)]]
def k143 : xK := [[(0, .aload_n 0), (1, .getfield 24), (4, .iload_n 1), (5, .invokevirtual 130), (8, .ifCond .ne 5), (11, .iconst (-1)), (12, .ireturn), (13, .aload_n 0), (14, .getfield 56)], [(17, .iload_n 1), (18, .invokevirtual 256), (21, .ireturn)]]
def k144 : xK := [[(0, .aload_n 0), (1, .getfield 24), (4, .iload_n 1), (5, .invokevirtual 130), (8, .ifCond .eq 12), (11, .iload_n 2), (12, .ifCond .lt 8), (15, .iload_n 2)], [(16, .iconst 1), (17, .if_icmp .le 5), (20, .iconst (-1)), (21, .ireturn), (22, .iload_n 1), (23, .aload_n 0), (24, .getfield 56), (27, .getfield 259), (30, .if_icmp .lt 6)], [(33, .bipush (-5)), (35, .ireturn), (36, .aload_n 0), (37, .getfield 56), (40, .getfield 262), (43, .iload_n 1), (44, .iaload), (45, .ifCond .ge 6)], [(48, .bipush (-2)), (50, .ireturn), (51, .iload_n 2), (52, .ifCond .ne 15), (55, .aload_n 0), (56, .getfield 56), (59, .getfield 262), (62, .iload_n 1), (63, .iaload)], [(64, .goto 12), (67, .aload_n 0), (68, .getfield 56), (71, .getfield 265), (74, .iload_n 1), (75, .iaload), (76, .ireturn)]]
def k145 : xK := [[(0, .iload_n 1), (1, .iconst (-1)), (2, .if_icmp .eq 17), (5, .aload_n 0), (6, .getfield 24), (9, .iload_n 1), (10, .invokevirtual 130), (13, .ifCond .ne 6)], [(16, .ldc 142), (18, .ireturn), (19, .aload_n 0), (20, .getfield 63), (23, .invokevirtual 268), (26, .ifCond .ne 6), (29, .bipush (-2)), (31, .ireturn)], [(32, .iload_n 1), (33, .iconst (-1)), (34, .if_icmp .ne 13), (37, .aload_n 0), (38, .getfield 63), (41, .getfield 271), (44, .goto 12), (47, .aload_n 0)], [(48, .getfield 63), (51, .getfield 274), (54, .iload_n 1), (55, .iaload), (56, .ireturn)]]
def k146 : xK := [[(0, .aload_n 0), (1, .getfield 47), (4, .iconst 0), (5, .invokevirtual 277), (8, .ireturn)]]
def k147 : xK := [[(0, .iload_n 1), (1, .ifCond .lt 8), (4, .iload_n 1), (5, .iconst 1), (6, .if_icmp .le 5), (9, .iconst (-1)), (10, .ireturn), (11, .aload_n 0), (12, .getfield 47), (15, .invokevirtual 280)], [(18, .istore_n 2), (19, .iload_n 1), (20, .ifCond .ne 10), (23, .iload_n 2), (24, .invokestatic 283), (27, .goto 4), (30, .iload_n 2), (31, .ireturn)]]
def k148 : xK := [[(0, .aload_n 0), (1, .getfield 24), (4, .iload_n 1), (5, .invokevirtual 215), (8, .ifCond .ne 6), (11, .ldc 142), (13, .ireturn), (14, .aload_n 0), (15, .getfield 47)], [(18, .iload_n 1), (19, .bipush 10), (21, .idiv), (22, .iload_n 1), (23, .bipush 10), (25, .irem), (26, .invokevirtual 288), (29, .ireturn)]]
def k149 : xK := [[(0, .aload_n 0), (1, .getfield 24), (4, .iload_n 1), (5, .invokevirtual 130), (8, .ifCond .eq 7), (11, .iload_n 2), (12, .ifCond .ge 5), (15, .iconst (-1))], [(16, .ireturn), (17, .iload_n 2), (18, .bipush 100), (20, .idiv), (21, .istore 4), (23, .iload_n 2), (24, .bipush 100), (26, .irem), (27, .istore 5), (29, .iload 4), (31, .iload 5)], [(33, .if_icmp .gt 21), (36, .iload 5), (38, .invokestatic 231), (41, .ifCond .eq 13), (44, .iload_n 3), (45, .iconst (-1)), (46, .if_icmp .lt 8)], [(49, .iload_n 3), (50, .iconst 5), (51, .if_icmp .lt 5), (54, .iconst (-1)), (55, .ireturn), (56, .aload_n 0), (57, .getfield 10), (60, .iload_n 1), (61, .iload 4), (63, .iload 5)], [(65, .iload_n 3), (66, .invokevirtual 291), (69, .ireturn)]]
def k150 : xK := [[(0, .iload_n 1), (1, .ifCond .lt 8), (4, .iload_n 1), (5, .iconst 2), (6, .if_icmp .le 5), (9, .iconst (-1)), (10, .ireturn), (11, .aload_n 0), (12, .getfield 72), (15, .invokevirtual 295)], [(18, .istore_n 2), (19, .iload_n 2), (20, .bipush (-2)), (22, .if_icmp .ne 6), (25, .bipush (-2)), (27, .ireturn), (28, .iload_n 1), (29, .ifCond .ne 8)], [(32, .iload_n 2), (33, .bipush 100), (35, .idiv), (36, .ireturn), (37, .iload_n 1), (38, .iconst 1), (39, .if_icmp .ne 13), (42, .iload_n 2), (43, .bipush 10), (45, .idiv), (46, .bipush 10)], [(48, .irem), (49, .goto 7), (52, .iload_n 2), (53, .bipush 10), (55, .irem), (56, .ireturn)]]
def k151 : xK := [[(0, .aload_n 0), (1, .getfield 24), (4, .iload_n 1), (5, .invokevirtual 215), (8, .ifCond .eq 12), (11, .iload_n 2), (12, .ifCond .lt 8), (15, .iload_n 2)], [(16, .iconst 1), (17, .if_icmp .le 5), (20, .iconst (-1)), (21, .ireturn), (22, .iload_n 2), (23, .ifCond .ne 19), (26, .aload_n 0), (27, .getfield 10), (30, .iload_n 1), (31, .bipush 10)], [(33, .idiv), (34, .iload_n 1), (35, .bipush 10), (37, .irem), (38, .invokevirtual 298), (41, .ireturn), (42, .aload_n 0), (43, .getfield 10), (46, .iload_n 1), (47, .bipush 10)], [(49, .idiv), (50, .iload_n 1), (51, .bipush 10), (53, .irem), (54, .invokevirtual 301), (57, .ireturn)]]
def k152 : xK := [[(0, .iload_n 1), (1, .ifCond .lt 29), (4, .iload_n 1), (5, .bipush 10), (7, .idiv), (8, .invokestatic 231), (11, .ifCond .eq 19), (14, .iload_n 1), (15, .bipush 10)], [(17, .irem), (18, .iconst 5), (19, .if_icmp .ge 11), (22, .iload_n 2), (23, .i2l), (24, .invokestatic 99), (27, .ifCond .ne 5), (30, .iconst (-1)), (31, .ireturn)], [(32, .aload_n 0), (33, .getfield 10), (36, .iload_n 1), (37, .bipush 10), (39, .idiv), (40, .iload_n 1), (41, .bipush 10), (43, .irem), (44, .iload_n 2), (45, .invokevirtual 304)], [(48, .ireturn)]]
def k153 : xK := [[(0, .iload_n 1), (1, .ifCond .lt 9), (4, .iload_n 1), (5, .bipush 6), (7, .if_icmp .le 5), (10, .iconst (-1)), (11, .ireturn), (12, .aload_n 0), (13, .getfield 72)], [(16, .iload_n 1), (17, .invokevirtual 307), (20, .ireturn)]]
def k154 : xK := [[(0, .aload_n 0), (1, .getfield 10), (4, .iload_n 1), (5, .invokevirtual 164), (8, .ifCond .ne 5), (11, .iconst (-1)), (12, .ireturn), (13, .aload_n 0), (14, .getfield 72)], [(17, .iload_n 1), (18, .invokevirtual 310), (21, .ireturn)]]
def k155 : xK := [[(0, .iload_n 1), (1, .invokestatic 231), (4, .ifCond .eq 12), (7, .iload_n 2), (8, .ifCond .lt 8), (11, .iload_n 2), (12, .iconst 1), (13, .if_icmp .le 5)], [(16, .iconst (-1)), (17, .ireturn), (18, .aload_n 0), (19, .getfield 72), (22, .iload_n 1), (23, .invokevirtual 313), (26, .istore_n 3), (27, .iload_n 2), (28, .ifCond .ne 7), (31, .iload_n 3)], [(32, .goto 11), (35, .aload_n 0), (36, .getfield 72), (39, .iload_n 3), (40, .invokevirtual 316), (43, .ireturn)]]
def k156 : xK := [[(0, .iload_n 1), (1, .iconst 1), (2, .if_icmp .lt 9), (5, .iload_n 1), (6, .bipush 12), (8, .if_icmp .le 5), (11, .iconst (-1)), (12, .ireturn), (13, .aload_n 0), (14, .getfield 47)], [(17, .iload_n 1), (18, .invokevirtual 277), (21, .ireturn)]]
def k157 : xK := [[(0, .aload_n 0), (1, .getfield 24), (4, .invokevirtual 319), (7, .ireturn)]]
def k158 : xK := [[(0, .aload_n 0), (1, .getfield 16), (4, .aload_n 0), (5, .getfield 10), (8, .invokevirtual 322), (11, .aload_n 0), (12, .iconst 1), (13, .putfield 324)], [(16, .aload_n 0), (17, .aload_n 0), (18, .getfield 24), (21, .getfield 244), (24, .putfield 328), (27, .aload_n 0), (28, .getfield 328), (31, .ireturn)]]
def k159 : xK := [[(0, .aload_n 0), (1, .getfield 324), (4, .ifCond .ne 6), (7, .bipush (-5)), (9, .ireturn), (10, .aload_n 0), (11, .getfield 10), (14, .aload_n 0), (15, .getfield 16)], [(18, .invokevirtual 322), (21, .aload_n 0), (22, .getfield 328), (25, .ireturn)]]
def k160 : xK := [[(0, .aload_n 0), (1, .getfield 81), (4, .invokevirtual 331), (7, .ireturn)]]
def k161 : xK := [[(0, .aload_n 0), (1, .getfield 81), (4, .invokevirtual 334), (7, .ireturn)]]
def k162 : xK := [[(0, .iload_n 1), (1, .invokestatic 337), (4, .ifCond .ne 5), (7, .iconst (-1)), (8, .ireturn), (9, .aload_n 0), (10, .getfield 88), (13, .iload_n 1), (14, .invokevirtual 340)], [(17, .ireturn)]]
def k163 : xK := [[(0, .aload_n 0), (1, .getfield 88), (4, .iload_n 1), (5, .iload_n 2), (6, .iload_n 3), (7, .invokevirtual 343), (10, .ireturn)]]
def k164 : xK := [[(0, .iload_n 1), (1, .ifCond .lt 26), (4, .iload_n 1), (5, .aload_n 0), (6, .getfield 88), (9, .invokevirtual 346), (12, .if_icmp .ge 15), (15, .aload_n 0)], [(16, .getfield 88), (19, .getfield 349), (22, .iload_n 1), (23, .iaload), (24, .goto 4), (27, .iconst (-1)), (28, .ireturn)]]
def k165 : xK := [[(0, .aload_n 0), (1, .getfield 95), (4, .iload_n 1), (5, .invokevirtual 107), (8, .ifCond .eq 19), (11, .iload_n 2), (12, .iconst (-1)), (13, .if_icmp .eq 16)], [(16, .aload_n 0), (17, .getfield 88), (20, .iload_n 2), (21, .invokevirtual 352), (24, .ifCond .ne 5), (27, .iconst (-1)), (28, .ireturn), (29, .aload_n 0), (30, .getfield 95)], [(33, .iload_n 1), (34, .iload_n 2), (35, .invokevirtual 353), (38, .ireturn)]]
def k166 : xK := [[(0, .aload_n 0), (1, .getfield 95), (4, .iload_n 1), (5, .invokevirtual 107), (8, .ifCond .eq 20), (11, .aload_n 0), (12, .getfield 95), (15, .iload_n 2)], [(16, .invokevirtual 356), (19, .ifCond .eq 9), (22, .iload_n 3), (23, .bipush 60), (25, .if_icmp .le 5), (28, .iconst (-1)), (29, .ireturn), (30, .iload_n 3), (31, .ifCond .ge 6)], [(34, .bipush (-14)), (36, .ireturn), (37, .aload_n 0), (38, .getfield 95), (41, .iload_n 1), (42, .iload_n 2), (43, .iload_n 3), (44, .invokevirtual 359), (47, .ireturn)]]
def k167 : xK := [[(0, .aload_n 0), (1, .getfield 95), (4, .iload_n 1), (5, .iload_n 2), (6, .invokevirtual 362), (9, .istore 5), (11, .iload 5), (13, .ifCond .eq 6)], [(16, .iload 5), (18, .ireturn), (19, .aload_n 0), (20, .getfield 95), (23, .iload_n 1), (24, .iload_n 2), (25, .lload_n 3), (26, .invokevirtual 365), (29, .iconst 1), (30, .ireturn)]]
def k168 : xK := [[(0, .aload_n 0), (1, .getfield 95), (4, .iload_n 1), (5, .iload_n 2), (6, .invokevirtual 362), (9, .ifCond .ne 15), (12, .aload_n 0), (13, .getfield 95)], [(16, .iload_n 1), (17, .iload_n 2), (18, .invokevirtual 126), (21, .goto 6), (24, .ldc2_w 371), (27, .lreturn)]]
def k169 : xK := [[(0, .aload_n 0), (1, .getfield 95), (4, .iload_n 1), (5, .invokevirtual 107), (8, .ifCond .eq 14), (11, .aload_n 0), (12, .getfield 95), (15, .iload_n 3)], [(16, .invokevirtual 107), (19, .ifCond .ne 5), (22, .iconst (-1)), (23, .ireturn), (24, .aload_n 0), (25, .getfield 95), (28, .iload_n 1), (29, .iload_n 2), (30, .iload_n 3), (31, .iload 4)], [(33, .iload 5), (35, .invokevirtual 373), (38, .ireturn)]]
def k170 : xK := [[(0, .aload_n 0), (1, .getfield 95), (4, .iload_n 1), (5, .invokevirtual 107), (8, .ifCond .eq 10), (11, .iload_n 2), (12, .invokestatic 337), (15, .ifCond .ne 5)], [(18, .iconst (-1)), (19, .ireturn), (20, .aload_n 0), (21, .getfield 95), (24, .iload_n 1), (25, .invokevirtual 111), (28, .ifCond .eq 6), (31, .bipush (-11))], [(33, .ireturn), (34, .aload_n 0), (35, .getfield 95), (38, .iload_n 1), (39, .invokevirtual 377), (42, .istore_n 3), (43, .aload_n 0), (44, .getfield 88), (47, .iload_n 3)], [(48, .invokevirtual 352), (51, .ifCond .ne 6), (54, .bipush (-12)), (56, .ireturn), (57, .aload_n 0), (58, .getfield 88), (61, .getfield 380)], [(64, .iload_n 3), (65, .iaload), (66, .istore 4), (68, .iload 4), (70, .iload_n 2), (71, .invokestatic 383), (74, .ifCond .eq 8), (77, .iload 4), (79, .goto 5)], [(82, .bipush (-12)), (84, .ireturn)]]
def k171 : xK := [[(0, .iload_n 1), (1, .tableswitch 99 0 6 #[43, 51, 59, 67, 75, 83, 91])], [], [(44, .aload_n 0), (45, .getfield 24)], [(48, .getfield 244), (51, .ireturn), (52, .aload_n 0), (53, .getfield 24), (56, .invokevirtual 386), (59, .ireturn), (60, .aload_n 0), (61, .getfield 10)], [(64, .getfield 389), (67, .ireturn), (68, .aload_n 0), (69, .getfield 38), (72, .getfield 212), (75, .ireturn), (76, .aload_n 0), (77, .getfield 81)], [(80, .getfield 392), (83, .ireturn), (84, .aload_n 0), (85, .getfield 88), (88, .getfield 395), (91, .ireturn), (92, .aload_n 0), (93, .getfield 88)], [(96, .getfield 396), (99, .ireturn), (100, .iconst (-1)), (101, .ireturn)]]
def k172 : xK := [[(0, .lload_n 0), (1, .lconst 0), (2, .lcmp), (3, .ifCond .lt 15), (6, .lload_n 0), (7, .ldc2_w 399), (10, .lcmp), (11, .ifCond .gt 7), (14, .iconst 1), (15, .goto 4)], [(18, .iconst 0), (19, .ireturn)]]
def k173 : xK := [[(0, .iload_n 0), (1, .ifCond .lt 13), (4, .iload_n 0), (5, .bipush 30), (7, .if_icmp .ge 7), (10, .iconst 1), (11, .goto 4), (14, .iconst 0), (15, .ireturn)]]
def k174 : xK := [[(0, .lload_n 0), (1, .lload_n 2), (2, .lcmp), (3, .ifCond .lt 14), (6, .lload_n 0), (7, .lload 4), (9, .lcmp), (10, .ifCond .gt 7), (13, .iconst 1), (14, .goto 4)], [(17, .iconst 0), (18, .ireturn)]]
def k175 : xK := [[(0, .iconst 0), (1, .istore_n 1), (2, .iload_n 0), (3, .istore_n 2), (4, .iload_n 2), (5, .ifCond .eq 15), (8, .iinc 1 1), (11, .iload_n 2), (12, .iload_n 2), (13, .iconst 1), (14, .isub), (15, .iand)], [(16, .istore_n 2), (17, .goto (-13)), (20, .iload_n 1), (21, .ireturn)]]
def k176 : xK := [[(0, .iload_n 0), (1, .iload_n 1), (2, .ishr), (3, .iconst 1), (4, .iand), (5, .iconst 1), (6, .if_icmp .ne 7), (9, .iconst 1), (10, .goto 4), (13, .iconst 0), (14, .ireturn)]]
def k177 : xK := [[(0, .aload_n 0), (1, .invokespecial 3), (4, .aload_n 0), (5, .bipush 23), (7, .newarray .int), (9, .putfield 9), (12, .aload_n 0), (13, .bipush 40), (15, .newarray .int)], [(17, .putfield 13), (20, .aload_n 0), (21, .bipush 40), (23, .newarray .int), (25, .putfield 16), (28, .aload_n 0), (29, .bipush 40), (31, .newarray .int)], [(33, .putfield 19), (36, .aload_n 0), (37, .bipush 7), (39, .newarray .int), (41, .putfield 22), (44, .aload_n 0), (45, .bipush 7), (47, .newarray .int)], [(49, .putfield 25), (52, .aload_n 0), (53, .bipush 28), (55, .newarray .int), (57, .putfield 28), (60, .aload_n 0), (61, .bipush 28), (63, .newarray .int)], [(65, .putfield 31), (68, .aload_n 0), (69, .bipush 120), (71, .newarray .int), (73, .putfield 34), (76, .aload_n 0), (77, .bipush 120), (79, .newarray .int)], [(81, .putfield 37), (84, .aload_n 0), (85, .bipush 6), (87, .newarray .int), (89, .putfield 40), (92, .aload_n 0), (93, .bipush 7), (95, .newarray .int)], [(97, .putfield 43), (100, .aload_n 0), (101, .sipush 210), (104, .newarray .int), (106, .putfield 46), (109, .aload_n 0), (110, .bipush 7)], [(112, .newarray .boolean), (114, .putfield 49), (117, .aload_n 0), (118, .bipush 7), (120, .newarray .int), (122, .putfield 53), (125, .aload_n 0), (126, .bipush 7)], [(128, .newarray .int), (130, .putfield 56), (133, .aload_n 0), (134, .bipush 7), (136, .newarray .int), (138, .putfield 59), (141, .aload_n 0), (142, .bipush 7)], [(144, .newarray .int), (146, .putfield 62), (149, .aload_n 0), (150, .bipush 7), (152, .newarray .int), (154, .putfield 65), (157, .aload_n 0), (158, .sipush 2401)], [(161, .newarray .boolean), (163, .putfield 68), (166, .aload_n 0), (167, .bipush 7), (169, .newarray .int), (171, .putfield 71), (174, .aload_n 0), (175, .sipush 210)], [(178, .newarray .int), (180, .putfield 74), (183, .aload_n 0), (184, .bipush 30), (186, .newarray .int), (188, .putfield 77), (191, .aload_n 0)], [(192, .bipush 10), (194, .newarray .int), (196, .putfield 80), (199, .aload_n 0), (200, .sipush 1024), (203, .newarray .int), (205, .putfield 83)], [(208, .aload_n 0), (209, .bipush 7), (211, .newarray .int), (213, .putfield 86), (216, .aload_n 0), (217, .sipush 210), (220, .newarray .int), (222, .putfield 89)], [(225, .aload_n 0), (226, .bipush 30), (228, .newarray .int), (230, .putfield 92), (233, .aload_n 0), (234, .bipush 50), (236, .newarray .int), (238, .putfield 95)], [(241, .aload_n 0), (242, .bipush 24), (244, .newarray .int), (246, .putfield 98), (249, .aload_n 0), (250, .bipush 6), (252, .newarray .int), (254, .putfield 101)], [(257, .aload_n 0), (258, .bipush 6), (260, .newarray .int), (262, .putfield 104), (265, .aload_n 0), (266, .sipush 360), (269, .newarray .long), (271, .putfield 107)], [(274, .aload_n 0), (275, .bipush 60), (277, .newarray .long), (279, .putfield 111), (282, .iconst 0), (283, .istore_n 1), (284, .iload_n 1), (285, .bipush 6), (287, .if_icmp .ge 16)], [(290, .aload_n 0), (291, .getfield 101), (294, .iload_n 1), (295, .iconst (-1)), (296, .iastore), (297, .iinc 1 1), (300, .goto (-16)), (303, .aload_n 0)], [(304, .iconst (-1)), (305, .putfield 114), (308, .iconst 0), (309, .istore_n 1), (310, .iload_n 1), (311, .sipush 210), (314, .if_icmp .ge 16), (317, .aload_n 0), (318, .getfield 74)], [(321, .iload_n 1), (322, .iconst (-1)), (323, .iastore), (324, .iinc 1 1), (327, .goto (-17)), (330, .iconst 0), (331, .istore_n 1), (332, .iload_n 1), (333, .bipush 7), (335, .if_icmp .ge 32)], [(338, .aload_n 0), (339, .getfield 22), (342, .iload_n 1), (343, .iconst (-1)), (344, .iastore), (345, .aload_n 0), (346, .getfield 56), (349, .iload_n 1), (350, .bipush (-5))], [(352, .iastore), (353, .aload_n 0), (354, .getfield 59), (357, .iload_n 1), (358, .bipush (-5)), (360, .iastore), (361, .iinc 1 1), (364, .goto (-32)), (367, .return_)]]
def k178 : xK := [[(0, .aload_n 0), (1, .getfield 9), (4, .iload_n 1), (5, .iaload), (6, .istore_n 3), (7, .iload_n 3), (8, .iload_n 2), (9, .if_icmp .ne 5), (12, .iload_n 3), (13, .ireturn), (14, .aload_n 0), (15, .getfield 118)], [(18, .bipush 40), (20, .if_icmp .ne 77), (23, .iconst 1), (24, .istore 4), (26, .iload 4), (28, .bipush 40), (30, .if_icmp .ge 57)], [(33, .aload_n 0), (34, .getfield 13), (37, .iload 4), (39, .iconst 1), (40, .isub), (41, .aload_n 0), (42, .getfield 13), (45, .iload 4), (47, .iaload)], [(48, .iastore), (49, .aload_n 0), (50, .getfield 16), (53, .iload 4), (55, .iconst 1), (56, .isub), (57, .aload_n 0), (58, .getfield 16), (61, .iload 4), (63, .iaload)], [(64, .iastore), (65, .aload_n 0), (66, .getfield 19), (69, .iload 4), (71, .iconst 1), (72, .isub), (73, .aload_n 0), (74, .getfield 19), (77, .iload 4), (79, .iaload)], [(80, .iastore), (81, .iinc 4 1), (84, .goto (-58)), (87, .aload_n 0), (88, .dup), (89, .getfield 118), (92, .iconst 1), (93, .isub), (94, .putfield 118)], [(97, .aload_n 0), (98, .getfield 13), (101, .aload_n 0), (102, .getfield 118), (105, .iload_n 1), (106, .iastore), (107, .aload_n 0), (108, .getfield 16), (111, .aload_n 0)], [(112, .getfield 118), (115, .iload_n 3), (116, .iastore), (117, .aload_n 0), (118, .getfield 19), (121, .aload_n 0), (122, .getfield 118), (125, .iload_n 2), (126, .iastore), (127, .aload_n 0)], [(128, .dup), (129, .getfield 118), (132, .iconst 1), (133, .iadd), (134, .putfield 118), (137, .aload_n 0), (138, .aload_n 0), (139, .getfield 118), (142, .putfield 121)], [(145, .aload_n 0), (146, .getfield 9), (149, .iload_n 1), (150, .iload_n 2), (151, .iastore), (152, .iload_n 3), (153, .ireturn)]]
def k179 : xK := [[(0, .aload_n 0), (1, .getfield 118), (4, .ifCond .ne 6), (7, .bipush (-5)), (9, .ireturn), (10, .aload_n 0), (11, .dup), (12, .getfield 118), (15, .iconst 1)], [(16, .isub), (17, .putfield 118), (20, .aload_n 0), (21, .getfield 9), (24, .aload_n 0), (25, .getfield 13), (28, .aload_n 0), (29, .getfield 118)], [(32, .iaload), (33, .aload_n 0), (34, .getfield 16), (37, .aload_n 0), (38, .getfield 118), (41, .iaload), (42, .iastore), (43, .aload_n 0), (44, .getfield 118), (47, .ireturn)]]
def k180 : xK := [[(0, .aload_n 0), (1, .getfield 118), (4, .aload_n 0), (5, .getfield 121), (8, .if_icmp .ne 6), (11, .bipush (-5)), (13, .ireturn), (14, .aload_n 0), (15, .getfield 9)], [(18, .aload_n 0), (19, .getfield 13), (22, .aload_n 0), (23, .getfield 118), (26, .iaload), (27, .aload_n 0), (28, .getfield 19), (31, .aload_n 0)], [(32, .getfield 118), (35, .iaload), (36, .iastore), (37, .aload_n 0), (38, .dup), (39, .getfield 118), (42, .iconst 1), (43, .iadd), (44, .putfield 118), (47, .aload_n 0)], [(48, .getfield 121), (51, .aload_n 0), (52, .getfield 118), (55, .isub), (56, .ireturn)]]
def k181 : xK := [[(0, .iload_n 1), (1, .i2l), (2, .lconst 0), (3, .aload_n 0), (4, .getfield 124), (7, .iconst 1), (8, .isub), (9, .i2l), (10, .invokestatic 127), (13, .ireturn)]]
def k182 : xK := [[(0, .iload_n 1), (1, .ifCond .lt 40), (4, .aload_n 0), (5, .iload_n 1), (6, .bipush 10), (8, .idiv), (9, .invokevirtual 131), (12, .ifCond .eq 29), (15, .aload_n 0)], [(16, .iload_n 1), (17, .bipush 10), (19, .irem), (20, .invokevirtual 131), (23, .ifCond .eq 18), (26, .iload_n 1), (27, .bipush 10), (29, .idiv), (30, .iload_n 1), (31, .bipush 10)], [(33, .irem), (34, .if_icmp .eq 7), (37, .iconst 1), (38, .goto 4), (41, .iconst 0), (42, .ireturn)]]
def k183 : xK := [[(0, .lload_n 0), (1, .lconst 0), (2, .ldc2_w 135), (5, .invokestatic 127), (8, .ireturn)]]
def k184 : xK := [[(0, .aload_n 0), (1, .getfield 9), (4, .aload_n 0), (5, .getfield 124), (8, .iload_n 1), (9, .iastore), (10, .aload_n 0), (11, .getfield 9), (14, .bipush 7)], [(16, .aload_n 0), (17, .getfield 124), (20, .iadd), (21, .iload_n 2), (22, .iastore), (23, .aload_n 0), (24, .getfield 9), (27, .bipush 14), (29, .aload_n 0), (30, .getfield 124)], [(33, .iadd), (34, .iconst 0), (35, .iastore), (36, .aload_n 0), (37, .dup), (38, .getfield 124), (41, .iconst 1), (42, .iadd), (43, .putfield 124), (46, .return_)]]
def k185 : xK := [[(0, .iload_n 1), (1, .i2l), (2, .invokestatic 137), (5, .ifCond .eq 11), (8, .iload_n 2), (9, .i2l), (10, .invokestatic 137), (13, .ifCond .ne 5)], [(16, .iconst (-1)), (17, .ireturn), (18, .aload_n 0), (19, .getfield 124), (22, .bipush 7), (24, .if_icmp .ne 6), (27, .bipush (-3)), (29, .ireturn), (30, .aload_n 0), (31, .iload_n 1)], [(32, .iload_n 2), (33, .invokevirtual 141), (36, .aload_n 0), (37, .getfield 124), (40, .iconst 1), (41, .isub), (42, .ireturn)]]
def k186 : xK := [[(0, .iload_n 1), (1, .invokestatic 145), (4, .ifCond .eq 15), (7, .iload_n 3), (8, .i2l), (9, .lconst 1), (10, .ldc2_w 148), (13, .invokestatic 127)], [(16, .ifCond .ne 5), (19, .iconst (-1)), (20, .ireturn), (21, .aload_n 0), (22, .getfield 101), (25, .iload_n 1), (26, .iaload), (27, .ifCond .lt 17), (30, .aload_n 0), (31, .getfield 101)], [(34, .iload_n 1), (35, .iaload), (36, .bipush 50), (38, .if_icmp .eq 6), (41, .bipush (-12)), (43, .ireturn), (44, .iconst 0), (45, .istore 4), (47, .aload_n 0)], [(48, .getfield 101), (51, .iload_n 1), (52, .iaload), (53, .bipush 50), (55, .if_icmp .ne 11), (58, .iload_n 2), (59, .ifCond .lt 7), (62, .iconst 1), (63, .goto 4)], [(66, .iconst 0), (67, .istore 5), (69, .iload 5), (71, .ifCond .eq 128), (74, .iload 4), (76, .iload_n 3), (77, .if_icmp .ge 122)], [(80, .iload_n 2), (81, .aload_n 0), (82, .getfield 104), (85, .iload_n 1), (86, .iaload), (87, .iconst 2), (88, .isub), (89, .iconst 2), (90, .iload 4), (92, .imul), (93, .isub), (94, .if_icmp .gt 16)], [(97, .aload_n 0), (98, .getfield 124), (101, .bipush 7), (103, .if_icmp .ge 7), (106, .iconst 1), (107, .goto 4), (110, .iconst 0), (111, .istore 5)], [(113, .bipush 60), (115, .iload_n 1), (116, .imul), (117, .iload_n 2), (118, .iadd), (119, .iconst 2), (120, .iload 4), (122, .imul), (123, .iadd), (124, .istore 6), (126, .iload 5)], [(128, .ifCond .eq 35), (131, .aload_n 0), (132, .getfield 107), (135, .iload 6), (137, .laload), (138, .invokestatic 137), (141, .ifCond .eq 22)], [(144, .aload_n 0), (145, .getfield 107), (148, .iload 6), (150, .iconst 1), (151, .iadd), (152, .laload), (153, .invokestatic 137), (156, .ifCond .eq 7), (159, .iconst 1)], [(160, .goto 4), (163, .iconst 0), (164, .istore 5), (166, .iload 5), (168, .ifCond .eq 28), (171, .aload_n 0), (172, .aload_n 0), (173, .getfield 107)], [(176, .iload 6), (178, .laload), (179, .l2i), (180, .aload_n 0), (181, .getfield 107), (184, .iload 6), (186, .iconst 1), (187, .iadd), (188, .laload), (189, .l2i), (190, .invokevirtual 141)], [(193, .iinc 4 1), (196, .goto (-127)), (199, .iload 4), (201, .ireturn)]]
def k187 : xK := [[(0, .aload_n 0), (1, .iload_n 1), (2, .invokevirtual 131), (5, .ifCond .eq 30), (8, .iload_n 2), (9, .ifCond .lt 26), (12, .iload_n 2), (13, .bipush 10), (15, .idiv)], [(16, .iconst 5), (17, .if_icmp .ge 18), (20, .iload_n 2), (21, .bipush 10), (23, .irem), (24, .i2l), (25, .lconst 1), (26, .ldc2_w 150), (29, .invokestatic 127)], [(32, .ifCond .ne 5), (35, .iconst (-1)), (36, .ireturn), (37, .aload_n 0), (38, .getfield 25), (41, .iload_n 1), (42, .iaload), (43, .iconst 4), (44, .if_icmp .ne 6), (47, .bipush (-3))], [(49, .ireturn), (50, .aload_n 0), (51, .getfield 28), (54, .iconst 4), (55, .iload_n 1), (56, .imul), (57, .aload_n 0), (58, .getfield 25), (61, .iload_n 1), (62, .iaload), (63, .iadd)], [(64, .iload_n 2), (65, .bipush 10), (67, .idiv), (68, .iastore), (69, .aload_n 0), (70, .getfield 31), (73, .iconst 4), (74, .iload_n 1), (75, .imul), (76, .aload_n 0), (77, .getfield 25)], [(80, .iload_n 1), (81, .iaload), (82, .iadd), (83, .iload_n 2), (84, .bipush 10), (86, .irem), (87, .iastore), (88, .aload_n 0), (89, .getfield 25), (92, .iload_n 1), (93, .dup2), (94, .iaload), (95, .iconst 1)], [(96, .iadd), (97, .iastore), (98, .aload_n 0), (99, .getfield 25), (102, .iload_n 1), (103, .iaload), (104, .ireturn)]]
def k188 : xK := [[(0, .aload_n 0), (1, .iload_n 1), (2, .invokevirtual 131), (5, .ifCond .ne 5), (8, .iconst (-1)), (9, .ireturn), (10, .aload_n 0), (11, .getfield 25), (14, .iload_n 1), (15, .iaload)], [(16, .istore_n 2), (17, .aload_n 0), (18, .getfield 25), (21, .iload_n 1), (22, .iconst 0), (23, .iastore), (24, .iload_n 2), (25, .ireturn)]]
def k189 : xK := [[(0, .aload_n 0), (1, .iload_n 1), (2, .invokevirtual 131), (5, .ifCond .eq 36), (8, .iload_n 2), (9, .iconst (-1)), (10, .if_icmp .eq 34), (13, .iload_n 2), (14, .i2l), (15, .lconst 0)], [(16, .ldc2_w 152), (19, .invokestatic 127), (22, .ifCond .eq 19), (25, .aload_n 0), (26, .getfield 9), (29, .bipush 7), (31, .iload_n 1)], [(32, .iadd), (33, .iaload), (34, .iload_n 2), (35, .invokestatic 154), (38, .ifCond .ne 6), (41, .ldc 158), (43, .ireturn), (44, .aload_n 0), (45, .getfield 22)], [(48, .iload_n 1), (49, .iaload), (50, .istore_n 3), (51, .aload_n 0), (52, .getfield 22), (55, .iload_n 1), (56, .iload_n 2), (57, .iastore), (58, .iload_n 3), (59, .ireturn)]]
def k190 : xK := [[(0, .iload_n 2), (1, .tableswitch 123 0 4 #[35, 35, 35, 67, 95])], [], [(36, .aload_n 0), (37, .iload_n 1), (38, .invokevirtual 131), (41, .ifCond .eq 25), (44, .iload_n 3), (45, .i2l), (46, .invokestatic 137)], [(49, .ifCond .eq 17), (52, .aload_n 0), (53, .bipush 7), (55, .iload_n 2), (56, .imul), (57, .iload_n 1), (58, .iadd), (59, .iload_n 3), (60, .invokevirtual 159), (63, .goto 4)], [(66, .iconst (-1)), (67, .ireturn), (68, .iload_n 1), (69, .ifCond .ne 25), (72, .iload_n 3), (73, .i2l), (74, .lconst 0), (75, .ldc2_w 150), (78, .invokestatic 127)], [(81, .ifCond .eq 13), (84, .aload_n 0), (85, .bipush 21), (87, .iload_n 3), (88, .invokevirtual 159), (91, .goto 4), (94, .iconst (-1)), (95, .ireturn)], [(96, .iload_n 1), (97, .ifCond .ne 25), (100, .iload_n 3), (101, .i2l), (102, .lconst 0), (103, .ldc2_w 163), (106, .invokestatic 127), (109, .ifCond .eq 13)], [(112, .aload_n 0), (113, .bipush 22), (115, .iload_n 3), (116, .invokevirtual 159), (119, .goto 4), (122, .iconst (-1)), (123, .ireturn), (124, .iconst (-1)), (125, .ireturn)]]
def k191 : xK := [[(0, .iload_n 1), (1, .ifCond .ge 7), (4, .iload_n 0), (5, .goto 8), (8, .iload_n 0), (9, .iconst 1), (10, .iload_n 1), (11, .ishl), (12, .ixor), (13, .ireturn)]]
def k192 : xK := [[(0, .aload_n 0), (1, .getfield 9), (4, .iload_n 1), (5, .iaload), (6, .aload_n 0), (7, .getfield 22), (10, .iload_n 1), (11, .iaload), (12, .invokestatic 165), (15, .ireturn)]]
def k193 : xK := [[(0, .iconst 0), (1, .istore_n 2), (2, .iconst 0), (3, .istore_n 3), (4, .iload_n 3), (5, .aload_n 0), (6, .getfield 25), (9, .iload_n 1), (10, .iaload), (11, .if_icmp .ge 22), (14, .iload_n 2), (15, .aload_n 0)], [(16, .getfield 31), (19, .iconst 4), (20, .iload_n 1), (21, .imul), (22, .iload_n 3), (23, .iadd), (24, .iaload), (25, .iadd), (26, .istore_n 2), (27, .iinc 3 1), (30, .goto (-26))], [(33, .iload_n 2), (34, .ireturn)]]
def k194 : xK := [[(0, .iload_n 2), (1, .tableswitch 57 3 6 #[31, 38, 44, 51])], [], [(32, .aload_n 0), (33, .getfield 22), (36, .iload_n 1), (37, .iaload), (38, .ireturn), (39, .aload_n 0), (40, .iload_n 1), (41, .invokevirtual 168), (44, .ireturn), (45, .aload_n 0), (46, .getfield 25)], [(49, .iload_n 1), (50, .iaload), (51, .ireturn), (52, .aload_n 0), (53, .iload_n 1), (54, .invokevirtual 172), (57, .ireturn), (58, .aload_n 0), (59, .getfield 9), (62, .bipush 7)], [(64, .iload_n 2), (65, .imul), (66, .iload_n 1), (67, .iadd), (68, .iaload), (69, .ireturn)]]
def k195 : xK := [[(0, .iload_n 2), (1, .i2l), (2, .lconst 0), (3, .ldc2_w 150), (6, .invokestatic 127), (9, .ifCond .eq 23), (12, .aload_n 0), (13, .iload_n 1), (14, .invokevirtual 131)], [(17, .ifCond .eq 12), (20, .aload_n 0), (21, .iload_n 1), (22, .iload_n 2), (23, .invokevirtual 175), (26, .goto 5), (29, .ldc 158), (31, .ireturn)], [(32, .iload_n 2), (33, .i2l), (34, .ldc2_w 178), (37, .ldc2_w 163), (40, .invokestatic 127), (43, .ifCond .eq 25), (46, .iload_n 1), (47, .ifCond .ne 18)], [(50, .aload_n 0), (51, .getfield 9), (54, .bipush 21), (56, .iload_n 2), (57, .iadd), (58, .bipush 10), (60, .isub), (61, .iaload), (62, .goto 5)], [(65, .ldc 158), (67, .ireturn), (68, .iload_n 2), (69, .i2l), (70, .ldc2_w 180), (73, .ldc2_w 182), (76, .invokestatic 127), (79, .ifCond .eq 35)], [(82, .iload_n 1), (83, .i2l), (84, .lconst 0), (85, .aload_n 0), (86, .getfield 184), (89, .iconst 1), (90, .isub), (91, .i2l), (92, .invokestatic 127), (95, .ifCond .eq 19)], [(98, .aload_n 0), (99, .getfield 77), (102, .iconst 3), (103, .iload_n 1), (104, .imul), (105, .iload_n 2), (106, .iadd), (107, .bipush 20), (109, .isub), (110, .iaload), (111, .goto 5)], [(114, .ldc 158), (116, .ireturn)]]
def k196 : xK := [[(0, .iload_n 1), (1, .i2l), (2, .lconst 0), (3, .ldc2_w 187), (6, .invokestatic 127), (9, .ifCond .ne 5), (12, .iconst (-1)), (13, .ireturn), (14, .aload_n 0), (15, .getfield 189)], [(18, .bipush 120), (20, .if_icmp .ne 6), (23, .bipush (-3)), (25, .ireturn), (26, .aload_n 0), (27, .getfield 34), (30, .aload_n 0), (31, .getfield 189)], [(34, .iload_n 1), (35, .iastore), (36, .aload_n 0), (37, .dup), (38, .getfield 189), (41, .iconst 1), (42, .iadd), (43, .putfield 189), (46, .aload_n 0), (47, .getfield 189)], [(50, .ireturn)]]
def k197 : xK := [[(0, .aload_n 0), (1, .getfield 192), (4, .aload_n 0), (5, .getfield 195), (8, .if_icmp .ge 39), (11, .aload_n 0), (12, .getfield 198), (15, .ifCond .ge 15)], [(18, .aload_n 0), (19, .getfield 34), (22, .aload_n 0), (23, .getfield 192), (26, .iaload), (27, .goto 21), (30, .aload_n 0), (31, .getfield 37)], [(34, .aload_n 0), (35, .getfield 198), (38, .aload_n 0), (39, .getfield 192), (42, .iadd), (43, .iaload), (44, .goto 4), (47, .iconst 0)], [(48, .ireturn)]]
def k198 : xK := [[(0, .aload_n 0), (1, .aload_n 0), (2, .getfield 201), (5, .ifCond .ge 10), (8, .aload_n 0), (9, .getfield 192), (12, .goto 7), (15, .aload_n 0)], [(16, .getfield 201), (19, .putfield 201), (22, .iconst 0), (23, .ireturn)]]
def k199 : xK := [[(0, .aload_n 0), (1, .getfield 201), (4, .ifCond .ge 11), (7, .aload_n 0), (8, .invokevirtual 204), (11, .iload_n 1), (12, .if_icmp .eq 5), (15, .iconst 0)], [(16, .ireturn), (17, .aload_n 0), (18, .dup), (19, .getfield 192), (22, .iconst 1), (23, .iadd), (24, .putfield 192), (27, .iconst 1), (28, .ireturn)]]
def k200 : xK := [[(0, .aload_n 0), (1, .invokevirtual 208), (4, .istore_n 1), (5, .aload_n 0), (6, .bipush 124), (8, .invokevirtual 211), (11, .ifCond .eq 25), (14, .aload_n 0), (15, .invokevirtual 208)], [(18, .istore_n 2), (19, .iload_n 1), (20, .ifCond .ne 7), (23, .iload_n 2), (24, .ifCond .eq 7), (27, .iconst 1), (28, .goto 4), (31, .iconst 0)], [(32, .istore_n 1), (33, .goto (-28)), (36, .iload_n 1), (37, .ireturn)]]
def k201 : xK := [[(0, .aload_n 0), (1, .invokevirtual 214), (4, .istore_n 1), (5, .aload_n 0), (6, .bipush 38), (8, .invokevirtual 211), (11, .ifCond .eq 25), (14, .aload_n 0), (15, .invokevirtual 214)], [(18, .istore_n 2), (19, .iload_n 1), (20, .ifCond .eq 11), (23, .iload_n 2), (24, .ifCond .eq 7), (27, .iconst 1), (28, .goto 4), (31, .iconst 0)], [(32, .istore_n 1), (33, .goto (-28)), (36, .iload_n 1), (37, .ireturn)]]
def k202 : xK := [[(0, .aload_n 0), (1, .invokevirtual 217), (4, .istore_n 1), (5, .aload_n 0), (6, .invokevirtual 204), (9, .istore_n 2), (10, .aload_n 0), (11, .getfield 201), (14, .ifCond .ge 21)], [(17, .iload_n 2), (18, .bipush 60), (20, .if_icmp .eq 17), (23, .iload_n 2), (24, .bipush 61), (26, .if_icmp .eq 11), (29, .iload_n 2), (30, .bipush 62)], [(32, .if_icmp .eq 5), (35, .iload_n 1), (36, .ireturn), (37, .aload_n 0), (38, .dup), (39, .getfield 192), (42, .iconst 1), (43, .iadd), (44, .putfield 192), (47, .aload_n 0)], [(48, .invokevirtual 217), (51, .istore_n 3), (52, .iload_n 2), (53, .bipush 60), (55, .if_icmp .ne 11), (58, .iload_n 1), (59, .iload_n 3), (60, .if_icmp .ge 29), (63, .goto 22)], [(66, .iload_n 2), (67, .bipush 61), (69, .if_icmp .ne 11), (72, .iload_n 1), (73, .iload_n 3), (74, .if_icmp .ne 15), (77, .goto 8)], [(80, .iload_n 1), (81, .iload_n 3), (82, .if_icmp .le 7), (85, .iconst 1), (86, .goto 4), (89, .iconst 0), (90, .ireturn)]]
def k203 : xK := [[(0, .aload_n 0), (1, .invokevirtual 220), (4, .istore_n 1), (5, .aload_n 0), (6, .getfield 201), (9, .ifCond .ge 68), (12, .aload_n 0), (13, .invokevirtual 204)], [(16, .bipush 43), (18, .if_icmp .eq 12), (21, .aload_n 0), (22, .invokevirtual 204), (25, .bipush 45), (27, .if_icmp .ne 50), (30, .aload_n 0), (31, .invokevirtual 204)], [(34, .bipush 43), (36, .if_icmp .ne 7), (39, .iconst 1), (40, .goto 4), (43, .iconst 0), (44, .istore_n 2), (45, .aload_n 0), (46, .dup), (47, .getfield 192)], [(50, .iconst 1), (51, .iadd), (52, .putfield 192), (55, .aload_n 0), (56, .invokevirtual 220), (59, .istore_n 3), (60, .iload_n 2), (61, .ifCond .eq 9)], [(64, .iload_n 1), (65, .iload_n 3), (66, .iadd), (67, .goto 6), (70, .iload_n 1), (71, .iload_n 3), (72, .isub), (73, .istore_n 1), (74, .goto (-69)), (77, .iload_n 1), (78, .ireturn)]]
def k204 : xK := [[(0, .aload_n 0), (1, .invokevirtual 223), (4, .istore_n 1), (5, .aload_n 0), (6, .invokevirtual 204), (9, .istore_n 2), (10, .aload_n 0), (11, .getfield 201), (14, .ifCond .ge 80)], [(17, .iload_n 2), (18, .bipush 42), (20, .if_icmp .eq 15), (23, .iload_n 2), (24, .bipush 47), (26, .if_icmp .eq 9), (29, .iload_n 2), (30, .bipush 37)], [(32, .if_icmp .ne 62), (35, .aload_n 0), (36, .dup), (37, .getfield 192), (40, .iconst 1), (41, .iadd), (42, .putfield 192), (45, .aload_n 0), (46, .invokevirtual 223)], [(49, .istore_n 3), (50, .iload_n 2), (51, .bipush 42), (53, .if_icmp .ne 9), (56, .iload_n 1), (57, .iload_n 3), (58, .imul), (59, .goto 26), (62, .iload_n 3), (63, .ifCond .ne 7)], [(66, .iconst 0), (67, .goto 18), (70, .iload_n 2), (71, .bipush 47), (73, .if_icmp .ne 9), (76, .iload_n 1), (77, .iload_n 3), (78, .idiv), (79, .goto 6)], [(82, .iload_n 1), (83, .iload_n 3), (84, .irem), (85, .istore_n 1), (86, .aload_n 0), (87, .invokevirtual 204), (90, .istore_n 2), (91, .goto (-81)), (94, .iload_n 1), (95, .ireturn)]]
def k205 : xK := [[(0, .iload_n 0), (1, .tableswitch 79 97 109 #[69, 71, 79, 67, 77, 79, 79, 73, 79, 79, 79, 79, 75])], [], [], [], [(68, .iconst 0), (69, .ireturn), (70, .iconst 1), (71, .ireturn), (72, .iconst 2), (73, .ireturn), (74, .iconst 3), (75, .ireturn), (76, .iconst 4), (77, .ireturn), (78, .iconst 5), (79, .ireturn)], [(80, .iconst (-1)), (81, .ireturn)]]
def k206 : xK := [[(0, .aload_n 0), (1, .getfield 201), (4, .ifCond .lt 5), (7, .iconst 0), (8, .ireturn), (9, .aload_n 0), (10, .invokevirtual 204), (13, .istore_n 1), (14, .iload_n 1), (15, .bipush 33)], [(17, .if_icmp .eq 15), (20, .iload_n 1), (21, .bipush 45), (23, .if_icmp .eq 9), (26, .iload_n 1), (27, .bipush 40), (29, .if_icmp .ne 116)], [(32, .aload_n 0), (33, .getfield 226), (36, .bipush 6), (38, .if_icmp .ne 8), (41, .aload_n 0), (42, .invokevirtual 229), (45, .ireturn), (46, .aload_n 0), (47, .dup)], [(48, .getfield 226), (51, .iconst 1), (52, .iadd), (53, .putfield 226), (56, .aload_n 0), (57, .dup), (58, .getfield 192), (61, .iconst 1), (62, .iadd), (63, .putfield 192)], [(66, .iload_n 1), (67, .bipush 40), (69, .if_icmp .ne 10), (72, .aload_n 0), (73, .invokevirtual 232), (76, .goto 7), (79, .aload_n 0)], [(80, .invokevirtual 223), (83, .istore_n 2), (84, .iload_n 1), (85, .bipush 40), (87, .if_icmp .ne 17), (90, .aload_n 0), (91, .bipush 41), (93, .invokevirtual 211)], [(96, .ifCond .ne 8), (99, .aload_n 0), (100, .invokevirtual 229), (103, .ireturn), (104, .aload_n 0), (105, .dup), (106, .getfield 226), (109, .iconst 1), (110, .isub), (111, .putfield 226)], [(114, .iload_n 1), (115, .bipush 40), (117, .if_icmp .ne 7), (120, .iload_n 2), (121, .goto 23), (124, .iload_n 1), (125, .bipush 45), (127, .if_icmp .ne 8)], [(130, .iload_n 2), (131, .ineg), (132, .goto 12), (135, .iload_n 2), (136, .ifCond .ne 7), (139, .iconst 1), (140, .goto 4), (143, .iconst 0)], [(144, .ireturn), (145, .iload_n 1), (146, .invokestatic 235), (149, .istore_n 2), (150, .iload_n 2), (151, .ifCond .lt 20), (154, .aload_n 0), (155, .dup), (156, .getfield 192), (159, .iconst 1)], [(160, .iadd), (161, .putfield 192), (164, .aload_n 0), (165, .getfield 40), (168, .iload_n 2), (169, .iaload), (170, .ireturn), (171, .iconst 0), (172, .istore_n 3), (173, .iconst 0), (174, .istore 4)], [(176, .iload 4), (178, .iconst 4), (179, .if_icmp .ge 50), (182, .aload_n 0), (183, .invokevirtual 204), (186, .bipush 48), (188, .if_icmp .lt 41), (191, .aload_n 0)], [(192, .invokevirtual 204), (195, .bipush 57), (197, .if_icmp .gt 32), (200, .bipush 10), (202, .iload_n 3), (203, .imul), (204, .aload_n 0), (205, .invokevirtual 204)], [(208, .iadd), (209, .bipush 48), (211, .isub), (212, .istore_n 3), (213, .iinc 4 1), (216, .aload_n 0), (217, .dup), (218, .getfield 192), (221, .iconst 1), (222, .iadd), (223, .putfield 192)], [(226, .goto (-50)), (229, .iload 4), (231, .ifCond .ne 10), (234, .aload_n 0), (235, .invokevirtual 229), (238, .goto 4)], [(241, .iload_n 3), (242, .ireturn)]]
def k207 : xK := [[(0, .aload_n 0), (1, .iload_n 1), (2, .putfield 198), (5, .aload_n 0), (6, .iconst 0), (7, .putfield 192), (10, .aload_n 0), (11, .iload_n 2), (12, .putfield 195), (15, .aload_n 0)], [(16, .iconst (-1)), (17, .putfield 201), (20, .aload_n 0), (21, .iconst 0), (22, .putfield 226), (25, .iconst 0), (26, .istore_n 3), (27, .iconst 0), (28, .istore 4), (30, .iconst 1), (31, .istore 5)], [(33, .iload 5), (35, .ifCond .eq 72), (38, .aload_n 0), (39, .invokevirtual 232), (42, .istore 6), (44, .iconst 1), (45, .istore 7), (47, .aload_n 0)], [(48, .bipush 63), (50, .invokevirtual 211), (53, .ifCond .eq 21), (56, .iload 6), (58, .ifCond .eq 7), (61, .iconst 1), (62, .goto 4)], [(65, .iconst 0), (66, .istore 7), (68, .aload_n 0), (69, .invokevirtual 232), (72, .istore 6), (74, .aload_n 0), (75, .getfield 201), (78, .ifCond .ge 18)], [(81, .iload 7), (83, .ifCond .eq 13), (86, .iload_n 3), (87, .ifCond .ne 9), (90, .iconst 1), (91, .istore_n 3), (92, .iload 6), (94, .istore 4)], [(96, .aload_n 0), (97, .bipush 59), (99, .invokevirtual 211), (102, .istore 5), (104, .goto (-71)), (107, .aload_n 0), (108, .getfield 201), (111, .ifCond .ge 19)], [(114, .aload_n 0), (115, .getfield 192), (118, .aload_n 0), (119, .getfield 195), (122, .if_icmp .ge 8), (125, .aload_n 0), (126, .invokevirtual 229)], [(129, .ireturn), (130, .iload 4), (132, .ireturn)]]
def k208 : xK := [[(0, .aload_n 0), (1, .iconst (-1)), (2, .aload_n 0), (3, .getfield 189), (6, .invokevirtual 238), (9, .istore_n 1), (10, .aload_n 0), (11, .getfield 189), (14, .istore_n 2), (15, .aload_n 0)], [(16, .iconst 0), (17, .putfield 189), (20, .aload_n 0), (21, .getfield 201), (24, .ifCond .lt 11), (27, .bipush (-100)), (29, .aload_n 0), (30, .getfield 201)], [(33, .isub), (34, .ireturn), (35, .iconst 0), (36, .istore_n 3), (37, .iload_n 3), (38, .iload_n 2), (39, .if_icmp .ge 21), (42, .aload_n 0), (43, .getfield 37), (46, .iload_n 3), (47, .aload_n 0)], [(48, .getfield 34), (51, .iload_n 3), (52, .iaload), (53, .iastore), (54, .iinc 3 1), (57, .goto (-20)), (60, .aload_n 0), (61, .iload_n 2), (62, .putfield 114)], [(65, .iconst 1), (66, .ireturn)]]
def k209 : xK := [[(0, .iload_n 1), (1, .iload_n 2), (2, .ixor), (3, .invokestatic 241), (6, .istore 5), (8, .aload_n 0), (9, .getfield 114), (12, .ifCond .ge 21), (15, .iload 5)], [(17, .aload_n 0), (18, .getfield 9), (21, .bipush 21), (23, .iaload), (24, .if_icmp .gt 7), (27, .iconst 1), (28, .goto 4), (31, .iconst 0)], [(32, .ireturn), (33, .aload_n 0), (34, .getfield 40), (37, .iconst 0), (38, .iload 5), (40, .iastore), (41, .aload_n 0), (42, .getfield 40), (45, .iconst 1), (46, .iload_n 1), (47, .iload_n 2)], [(48, .if_icmp .ge 7), (51, .iload_n 1), (52, .goto 4), (55, .iload_n 2), (56, .iastore), (57, .aload_n 0), (58, .getfield 40), (61, .iconst 2), (62, .iload_n 1), (63, .iload_n 2)], [(64, .if_icmp .ge 7), (67, .iload_n 2), (68, .goto 4), (71, .iload_n 1), (72, .iastore), (73, .aload_n 0), (74, .getfield 40), (77, .iconst 3), (78, .iload_n 3), (79, .iastore)], [(80, .aload_n 0), (81, .getfield 40), (84, .iconst 4), (85, .iload 4), (87, .iastore), (88, .aload_n 0), (89, .getfield 40), (92, .iconst 5), (93, .aload_n 0), (94, .getfield 9)], [(97, .bipush 21), (99, .iaload), (100, .iastore), (101, .aload_n 0), (102, .iconst 0), (103, .aload_n 0), (104, .getfield 114), (107, .invokevirtual 238), (110, .ifCond .eq 7)], [(113, .iconst 1), (114, .goto 4), (117, .iconst 0), (118, .ireturn)]]
def k210 : xK := [[(0, .iload_n 0), (1, .ifCond .ge 7), (4, .iconst 0), (5, .goto 4), (8, .iconst 1), (9, .ireturn)]]
def k211 : xK := [[(0, .aload_n 0), (1, .aload_n 0), (2, .iload_n 1), (3, .invokevirtual 168), (6, .aload_n 0), (7, .iload_n 2), (8, .invokevirtual 168), (11, .aload_n 0), (12, .getfield 22), (15, .iload_n 1)], [(16, .iaload), (17, .invokestatic 244), (20, .aload_n 0), (21, .getfield 22), (24, .iload_n 2), (25, .iaload), (26, .invokestatic 244), (29, .iadd), (30, .aload_n 0), (31, .getfield 9)], [(34, .bipush 22), (36, .iaload), (37, .invokevirtual 247), (40, .ireturn)]]
def k212 : xK := [[(0, .aload_n 0), (1, .iload_n 1), (2, .invokevirtual 251), (5, .ifCond .eq 26), (8, .aload_n 0), (9, .iload_n 1), (10, .bipush 10), (12, .idiv), (13, .iload_n 1), (14, .bipush 10)], [(16, .irem), (17, .invokevirtual 254), (20, .ifCond .eq 7), (23, .iconst 1), (24, .goto 8), (27, .iconst 0), (28, .goto 4), (31, .iconst (-1))], [(32, .ireturn)]]
def k213 : xK := [[(0, .iconst 0), (1, .istore_n 1), (2, .iload_n 1), (3, .aload_n 0), (4, .getfield 124), (7, .if_icmp .ge 62), (10, .aload_n 0), (11, .getfield 43), (14, .iload_n 1), (15, .iconst 0)], [(16, .iastore), (17, .iconst 0), (18, .istore_n 2), (19, .iload_n 2), (20, .aload_n 0), (21, .getfield 124), (24, .if_icmp .ge 39), (27, .aload_n 0), (28, .getfield 43), (31, .iload_n 1)], [(32, .dup2), (33, .iaload), (34, .iload_n 1), (35, .iload_n 2), (36, .if_icmp .eq 18), (39, .aload_n 0), (40, .iload_n 1), (41, .iload_n 2), (42, .invokevirtual 254), (45, .ifCond .eq 9)], [(48, .iconst 1), (49, .iload_n 2), (50, .ishl), (51, .goto 4), (54, .iconst 0), (55, .ior), (56, .iastore), (57, .iinc 2 1), (60, .goto (-41)), (63, .iinc 1 1)], [(66, .goto (-64)), (69, .return_)]]
def k214 : xK := [[(0, .iconst 0), (1, .istore 4), (3, .iload 4), (5, .aload_n 0), (6, .getfield 124), (9, .if_icmp .ge 46), (12, .aload_n 0), (13, .getfield 43)], [(16, .iload_n 1), (17, .iaload), (18, .aload_n 0), (19, .getfield 257), (22, .iand), (23, .iload 4), (25, .invokestatic 154), (28, .ifCond .eq 21), (31, .aload_n 0)], [(32, .getfield 46), (35, .bipush 30), (37, .iload 4), (39, .imul), (40, .iload_n 3), (41, .iadd), (42, .iaload), (43, .iload_n 2), (44, .if_icmp .ne 5), (47, .iconst 1)], [(48, .ireturn), (49, .iinc 4 1), (52, .goto (-49)), (55, .iconst 0), (56, .ireturn)]]
def k215 : xK := [[(0, .aload_n 0), (1, .getfield 28), (4, .iconst 4), (5, .iload_n 1), (6, .imul), (7, .iload_n 2), (8, .iadd), (9, .iaload), (10, .istore 4), (12, .aload_n 0), (13, .getfield 31)], [(16, .iconst 4), (17, .iload_n 1), (18, .imul), (19, .iload_n 2), (20, .iadd), (21, .iaload), (22, .istore 5), (24, .iconst 0), (25, .istore 6), (27, .iload_n 3), (28, .istore 7), (30, .iload 7)], [(32, .bipush 30), (34, .if_icmp .ge 46), (37, .aload_n 0), (38, .iload_n 1), (39, .iload 4), (41, .iload 7), (43, .invokevirtual 260), (46, .ifCond .eq 7)], [(49, .iconst 0), (50, .goto 7), (53, .iload 6), (55, .iconst 1), (56, .iadd), (57, .istore 6), (59, .iload 6), (61, .iload 5), (63, .if_icmp .ne 11)], [(66, .iload 7), (68, .iload 5), (70, .isub), (71, .iconst 1), (72, .iadd), (73, .ireturn), (74, .iinc 7 1), (77, .goto (-47))], [(80, .iconst (-1)), (81, .ireturn)]]
def k216 : xK := [[(0, .iconst 0), (1, .istore_n 2), (2, .iload_n 2), (3, .bipush 30), (5, .if_icmp .ge 21), (8, .aload_n 0), (9, .getfield 46), (12, .bipush 30), (14, .iload_n 1), (15, .imul)], [(16, .iload_n 2), (17, .iadd), (18, .iconst (-1)), (19, .iastore), (20, .iinc 2 1), (23, .goto (-21)), (26, .iconst 0), (27, .istore_n 2), (28, .aload_n 0), (29, .getfield 49)], [(32, .iload_n 1), (33, .iconst 0), (34, .bastore), (35, .iconst 0), (36, .istore_n 3), (37, .iload_n 3), (38, .aload_n 0), (39, .getfield 25), (42, .iload_n 1), (43, .iaload), (44, .if_icmp .ge 105), (47, .aload_n 0)], [(48, .getfield 49), (51, .iload_n 1), (52, .baload), (53, .ifCond .ne 96), (56, .aload_n 0), (57, .iload_n 1), (58, .iload_n 3), (59, .iload_n 2), (60, .invokevirtual 264), (63, .istore 4)], [(65, .aload_n 0), (66, .getfield 49), (69, .iload_n 1), (70, .iload 4), (72, .ifCond .ge 7), (75, .iconst 1), (76, .goto 4), (79, .iconst 0)], [(80, .bastore), (81, .iconst 0), (82, .istore 5), (84, .iload 5), (86, .aload_n 0), (87, .getfield 31), (90, .iconst 4), (91, .iload_n 1), (92, .imul), (93, .iload_n 3), (94, .iadd), (95, .iaload)], [(96, .if_icmp .ge 47), (99, .iload 4), (101, .ifCond .lt 42), (104, .aload_n 0), (105, .getfield 46), (108, .bipush 30), (110, .iload_n 1), (111, .imul)], [(112, .iload 4), (114, .iadd), (115, .iload 5), (117, .iadd), (118, .aload_n 0), (119, .getfield 28), (122, .iconst 4), (123, .iload_n 1), (124, .imul), (125, .iload_n 3), (126, .iadd), (127, .iaload)], [(128, .iastore), (129, .iload 4), (131, .iload 5), (133, .iadd), (134, .iconst 1), (135, .iadd), (136, .istore_n 2), (137, .iinc 5 1), (140, .goto (-56)), (143, .iinc 3 1)], [(146, .goto (-109)), (149, .aload_n 0), (150, .getfield 53), (153, .iload_n 1), (154, .aload_n 0), (155, .getfield 49), (158, .iload_n 1), (159, .baload)], [(160, .ifCond .eq 7), (163, .iconst 0), (164, .goto 10), (167, .iload_n 2), (168, .aload_n 0), (169, .iload_n 1), (170, .invokevirtual 172), (173, .isub), (174, .iastore), (175, .iconst 0)], [(176, .istore_n 3), (177, .iload_n 3), (178, .bipush 30), (180, .if_icmp .ge 30), (183, .aload_n 0), (184, .getfield 49), (187, .iload_n 1), (188, .baload), (189, .ifCond .eq 21)], [(192, .aload_n 0), (193, .getfield 46), (196, .bipush 30), (198, .iload_n 1), (199, .imul), (200, .iload_n 3), (201, .iadd), (202, .iconst (-1)), (203, .iastore), (204, .iinc 3 1), (207, .goto (-30))], [(210, .aload_n 0), (211, .dup), (212, .getfield 257), (215, .iconst 1), (216, .iload_n 1), (217, .ishl), (218, .ior), (219, .putfield 257), (222, .return_)]]
def k217 : xK := [[(0, .aload_n 0), (1, .invokevirtual 268), (4, .aload_n 0), (5, .iconst 0), (6, .putfield 257), (9, .iconst 0), (10, .istore_n 2), (11, .iload_n 2), (12, .aload_n 0), (13, .getfield 124)], [(16, .if_icmp .ge 19), (19, .iload_n 2), (20, .iload_n 1), (21, .if_icmp .eq 8), (24, .aload_n 0), (25, .iload_n 2), (26, .invokevirtual 271), (29, .iinc 2 1)], [(32, .goto (-21)), (35, .return_)]]
def k218 : xK := [[(0, .aload_n 0), (1, .getfield 49), (4, .iload_n 1), (5, .baload), (6, .ifCond .eq 8), (9, .bipush 30), (11, .goto 9), (14, .aload_n 0), (15, .getfield 53)], [(18, .iload_n 1), (19, .iaload), (20, .ireturn)]]
def k219 : xK := [[(0, .iconst 0), (1, .istore_n 1), (2, .iconst 0), (3, .istore_n 2), (4, .iload_n 2), (5, .aload_n 0), (6, .getfield 124), (9, .if_icmp .ge 17), (12, .iload_n 1), (13, .aload_n 0), (14, .iload_n 2), (15, .invokevirtual 275)], [(18, .iadd), (19, .istore_n 1), (20, .iinc 2 1), (23, .goto (-19)), (26, .iload_n 1), (27, .ireturn)]]
def k220 : xK := [[(0, .aload_n 0), (1, .iconst (-1)), (2, .invokevirtual 278), (5, .iconst 0), (6, .istore_n 1), (7, .iload_n 1), (8, .aload_n 0), (9, .getfield 124), (12, .if_icmp .ge 85), (15, .aload_n 0)], [(16, .getfield 56), (19, .iload_n 1), (20, .bipush (-2)), (22, .iastore), (23, .aload_n 0), (24, .getfield 59), (27, .iload_n 1), (28, .bipush (-2)), (30, .iastore), (31, .iconst 0)], [(32, .istore_n 2), (33, .iload_n 2), (34, .bipush 30), (36, .if_icmp .ge 55), (39, .aload_n 0), (40, .getfield 46), (43, .bipush 30), (45, .iload_n 1), (46, .imul), (47, .iload_n 2)], [(48, .iadd), (49, .iaload), (50, .ifCond .lt 35), (53, .aload_n 0), (54, .getfield 56), (57, .iload_n 1), (58, .aload_n 0), (59, .getfield 56), (62, .iload_n 1), (63, .iaload)], [(64, .ifCond .ge 7), (67, .iload_n 2), (68, .goto 9), (71, .aload_n 0), (72, .getfield 56), (75, .iload_n 1), (76, .iaload), (77, .iastore), (78, .aload_n 0), (79, .getfield 59)], [(82, .iload_n 1), (83, .iload_n 2), (84, .iastore), (85, .iinc 2 1), (88, .goto (-55)), (91, .iinc 1 1), (94, .goto (-87))], [(97, .aload_n 0), (98, .invokevirtual 281), (101, .ireturn)]]
def k221 : xK := [[(0, .aload_n 0), (1, .iload_n 1), (2, .invokevirtual 131), (5, .ifCond .eq 15), (8, .iload_n 2), (9, .i2l), (10, .lconst 0), (11, .ldc2_w 284), (14, .invokestatic 127)], [(17, .ifCond .ne 6), (20, .ldc 158), (22, .ireturn), (23, .aload_n 0), (24, .iconst (-1)), (25, .invokevirtual 278), (28, .aload_n 0), (29, .getfield 46)], [(32, .bipush 30), (34, .iload_n 1), (35, .imul), (36, .iload_n 2), (37, .iadd), (38, .iaload), (39, .ireturn)]]
def k222 : xK := [[(0, .aload_n 0), (1, .iload_n 1), (2, .invokevirtual 131), (5, .ifCond .eq 13), (8, .iload_n 2), (9, .i2l), (10, .lconst 0), (11, .lconst 1), (12, .invokestatic 127), (15, .ifCond .ne 5)], [(18, .iconst (-1)), (19, .ireturn), (20, .aload_n 0), (21, .iconst (-1)), (22, .invokevirtual 278), (25, .iload_n 2), (26, .ifCond .ne 12), (29, .aload_n 0), (30, .getfield 53)], [(33, .iload_n 1), (34, .iaload), (35, .goto 17), (38, .aload_n 0), (39, .getfield 49), (42, .iload_n 1), (43, .baload), (44, .ifCond .eq 7), (47, .iconst 1)], [(48, .goto 4), (51, .iconst 0), (52, .ireturn)]]
def k223 : xK := [[(0, .aload_n 0), (1, .getfield 286), (4, .ifCond .lt 12), (7, .iload_n 3), (8, .aload_n 0), (9, .getfield 286), (12, .if_icmp .lt 4), (15, .return_)], [(16, .iload_n 1), (17, .aload_n 0), (18, .getfield 124), (21, .if_icmp .ne 41), (24, .aload_n 0), (25, .iload_n 3), (26, .putfield 286), (29, .iconst 0), (30, .istore 4)], [(32, .iload 4), (34, .aload_n 0), (35, .getfield 124), (38, .if_icmp .ge 23), (41, .aload_n 0), (42, .getfield 65), (45, .iload 4), (47, .aload_n 0)], [(48, .getfield 62), (51, .iload 4), (53, .iaload), (54, .iastore), (55, .iinc 4 1), (58, .goto (-26)), (61, .return_), (62, .iconst 0), (63, .istore 4)], [(65, .iload 4), (67, .aload_n 0), (68, .getfield 124), (71, .if_icmp .ge 58), (74, .iload_n 2), (75, .iload 4), (77, .invokestatic 154)], [(80, .ifCond .ne 43), (83, .aload_n 0), (84, .iload_n 2), (85, .putfield 257), (88, .aload_n 0), (89, .iload 4), (91, .invokevirtual 271), (94, .aload_n 0), (95, .getfield 62)], [(98, .iload_n 1), (99, .iload 4), (101, .iastore), (102, .aload_n 0), (103, .iload_n 1), (104, .iconst 1), (105, .iadd), (106, .iload_n 2), (107, .iconst 1), (108, .iload 4), (110, .ishl), (111, .ior)], [(112, .iload_n 3), (113, .aload_n 0), (114, .iload 4), (116, .invokevirtual 275), (119, .iadd), (120, .invokevirtual 289), (123, .iinc 4 1), (126, .goto (-61))], [(129, .return_)]]
def k224 : xK := [[(0, .iload_n 1), (1, .iconst (-1)), (2, .if_icmp .lt 11), (5, .iload_n 1), (6, .aload_n 0), (7, .getfield 124), (10, .if_icmp .lt 5), (13, .iconst (-1)), (14, .ireturn), (15, .aload_n 0)], [(16, .invokevirtual 268), (19, .aload_n 0), (20, .iconst (-1)), (21, .putfield 286), (24, .aload_n 0), (25, .iconst 0), (26, .iconst 0), (27, .iconst 0), (28, .invokevirtual 289), (31, .iload_n 1)], [(32, .iconst (-1)), (33, .if_icmp .ne 10), (36, .aload_n 0), (37, .getfield 286), (40, .goto 9), (43, .aload_n 0), (44, .getfield 65), (47, .iload_n 1)], [(48, .iaload), (49, .ireturn)]]
def k225 : xK := [[(0, .aload_n 0), (1, .iload_n 1), (2, .invokevirtual 131), (5, .ifCond .ne 5), (8, .iconst (-1)), (9, .ireturn), (10, .aload_n 0), (11, .iconst (-1)), (12, .invokevirtual 278), (15, .aload_n 0)], [(16, .getfield 53), (19, .iload_n 1), (20, .iaload), (21, .istore_n 2), (22, .aload_n 0), (23, .getfield 49), (26, .iload_n 1), (27, .baload), (28, .istore_n 3), (29, .iconst 0), (30, .istore 4)], [(32, .iload 4), (34, .iload_n 1), (35, .if_icmp .ge 53), (38, .aload_n 0), (39, .iload 4), (41, .invokevirtual 278), (44, .iload_n 3), (45, .ifCond .eq 15)], [(48, .aload_n 0), (49, .getfield 49), (52, .iload_n 1), (53, .baload), (54, .ifCond .ne 28), (57, .goto 22), (60, .aload_n 0), (61, .getfield 49)], [(64, .iload_n 1), (65, .baload), (66, .ifCond .ne 16), (69, .aload_n 0), (70, .getfield 53), (73, .iload_n 1), (74, .iaload), (75, .iload_n 2), (76, .if_icmp .ge 6), (79, .iload 4)], [(81, .ireturn), (82, .iinc 4 1), (85, .goto (-53)), (88, .bipush (-2)), (90, .ireturn)]]
def k226 : xK := [[(0, .aload_n 0), (1, .iload_n 1), (2, .invokevirtual 131), (5, .ifCond .eq 13), (8, .iload_n 2), (9, .i2l), (10, .lconst 0), (11, .lconst 1), (12, .invokestatic 127), (15, .ifCond .ne 5)], [(18, .iconst (-1)), (19, .ireturn), (20, .iload_n 2), (21, .ifCond .ne 12), (24, .aload_n 0), (25, .getfield 56), (28, .iload_n 1), (29, .iaload), (30, .goto 9)], [(33, .aload_n 0), (34, .getfield 59), (37, .iload_n 1), (38, .iaload), (39, .ireturn)]]
def k227 : xK := [[(0, .iload_n 0), (1, .bipush 7), (3, .imul), (4, .iload_n 1), (5, .iadd), (6, .bipush 7), (8, .imul), (9, .iload_n 2), (10, .iadd), (11, .bipush 7), (13, .imul), (14, .iload_n 3), (15, .iadd)], [(16, .ireturn)]]
def k228 : xK := [[(0, .iload_n 2), (1, .ifCond .eq 21), (4, .aload_n 0), (5, .getfield 9), (8, .bipush 7), (10, .iload_n 1), (11, .iadd), (12, .iaload), (13, .iload_n 2), (14, .iconst 1), (15, .isub)], [(16, .invokestatic 154), (19, .ifCond .eq 7), (22, .iconst 1), (23, .goto 4), (26, .iconst 0), (27, .ireturn)]]
def k229 : xK := [[(0, .iconst 0), (1, .istore_n 1), (2, .iload_n 1), (3, .aload_n 0), (4, .getfield 124), (7, .if_icmp .ge 114), (10, .iconst 0), (11, .istore_n 2), (12, .iload_n 2), (13, .iload_n 1), (14, .if_icmp .ge 101)], [(17, .iconst 0), (18, .istore_n 3), (19, .iload_n 3), (20, .bipush 49), (22, .if_icmp .ge 87), (25, .iload_n 3), (26, .bipush 7), (28, .idiv), (29, .istore 4), (31, .iload_n 3)], [(32, .bipush 7), (34, .irem), (35, .istore 5), (37, .aload_n 0), (38, .getfield 68), (41, .iload_n 1), (42, .iload 4), (44, .iload_n 2), (45, .iload 5), (47, .invokestatic 293)], [(50, .aload_n 0), (51, .aload_n 0), (52, .getfield 9), (55, .iload_n 1), (56, .iaload), (57, .iload 4), (59, .iconst 1), (60, .isub), (61, .invokestatic 165)], [(64, .aload_n 0), (65, .getfield 9), (68, .iload_n 2), (69, .iaload), (70, .iload 5), (72, .iconst 1), (73, .isub), (74, .invokestatic 165), (77, .iload 4), (79, .iconst 1)], [(80, .isub), (81, .invokestatic 244), (84, .iload 5), (86, .iconst 1), (87, .isub), (88, .invokestatic 244), (91, .iadd), (92, .aload_n 0), (93, .getfield 9)], [(96, .bipush 22), (98, .iaload), (99, .invokevirtual 247), (102, .bastore), (103, .iinc 3 1), (106, .goto (-87)), (109, .iinc 2 1)], [(112, .goto (-100)), (115, .iinc 1 1), (118, .goto (-116)), (121, .return_)]]
def k230 : xK := [[(0, .iload_n 1), (1, .aload_n 0), (2, .getfield 124), (5, .if_icmp .ne 13), (8, .iload_n 2), (9, .ifCond .ne 7), (12, .iconst 1), (13, .goto 4)], [(16, .iconst 0), (17, .ireturn), (18, .iconst 0), (19, .istore_n 3), (20, .iload_n 3), (21, .bipush 7), (23, .if_icmp .ge 117), (26, .aload_n 0), (27, .iload_n 1), (28, .iload_n 3), (29, .invokevirtual 297)], [(32, .ifCond .eq 15), (35, .iload_n 3), (36, .ifCond .eq 7), (39, .iload_n 2), (40, .ifCond .le 7), (43, .iconst 1), (44, .goto 4), (47, .iconst 0)], [(48, .istore 4), (50, .iconst 0), (51, .istore 5), (53, .iload 5), (55, .iload_n 1), (56, .if_icmp .ge 43), (59, .iload 4), (61, .ifCond .eq 38)], [(64, .aload_n 0), (65, .getfield 68), (68, .iload_n 1), (69, .iload_n 3), (70, .iload 5), (72, .aload_n 0), (73, .getfield 71), (76, .iload 5), (78, .iaload), (79, .invokestatic 293)], [(82, .baload), (83, .ifCond .ne 7), (86, .iconst 1), (87, .goto 4), (90, .iconst 0), (91, .istore 4), (93, .iinc 5 1)], [(96, .goto (-43)), (99, .iload 4), (101, .ifCond .eq 33), (104, .aload_n 0), (105, .getfield 71), (108, .iload_n 1), (109, .iload_n 3), (110, .iastore), (111, .aload_n 0)], [(112, .iload_n 1), (113, .iconst 1), (114, .iadd), (115, .iload_n 3), (116, .ifCond .ne 7), (119, .iload_n 2), (120, .goto 6), (123, .iload_n 2), (124, .iconst 1), (125, .isub), (126, .invokevirtual 300)], [(129, .ifCond .eq 5), (132, .iconst 1), (133, .ireturn), (134, .iinc 3 1), (137, .goto (-117)), (140, .iconst 0), (141, .ireturn)]]
def k231 : xK := [[(0, .iload_n 1), (1, .iconst (-1)), (2, .if_icmp .eq 14), (5, .aload_n 0), (6, .iload_n 1), (7, .invokevirtual 131), (10, .ifCond .ne 6), (13, .ldc 158), (15, .ireturn)], [(16, .aload_n 0), (17, .invokevirtual 303), (20, .iconst 0), (21, .istore_n 2), (22, .iload_n 2), (23, .aload_n 0), (24, .getfield 124), (27, .if_icmp .gt 36), (30, .aload_n 0), (31, .iconst 0)], [(32, .iload_n 2), (33, .invokevirtual 300), (36, .ifCond .eq 21), (39, .iload_n 1), (40, .iconst (-1)), (41, .if_icmp .ne 7), (44, .iload_n 2), (45, .goto 11)], [(48, .aload_n 0), (49, .getfield 71), (52, .iload_n 1), (53, .iaload), (54, .iconst 1), (55, .isub), (56, .ireturn), (57, .iinc 2 1), (60, .goto (-38)), (63, .bipush (-2))], [(65, .ireturn)]]
def k232 : xK := [[(0, .aload_n 0), (1, .invokevirtual 268), (4, .iconst 0), (5, .istore_n 1), (6, .iconst 0), (7, .istore_n 2), (8, .iload_n 2), (9, .aload_n 0), (10, .getfield 124), (13, .if_icmp .ge 21)], [(16, .iload_n 1), (17, .aload_n 0), (18, .getfield 43), (21, .iload_n 2), (22, .iaload), (23, .invokestatic 241), (26, .iadd), (27, .istore_n 1), (28, .iinc 2 1), (31, .goto (-23))], [(34, .iload_n 1), (35, .iconst 2), (36, .idiv), (37, .ireturn)]]
def k233 : xK := [[(0, .iconst 0), (1, .istore_n 2), (2, .iload_n 2), (3, .aload_n 0), (4, .getfield 124), (7, .if_icmp .ge 38), (10, .iload_n 1), (11, .iload_n 2), (12, .invokestatic 154), (15, .ifCond .eq 24)], [(18, .iload_n 1), (19, .iconst 1), (20, .iload_n 2), (21, .ishl), (22, .iconst (-1)), (23, .ixor), (24, .iand), (25, .aload_n 0), (26, .getfield 43), (29, .iload_n 2), (30, .iaload), (31, .iconst (-1))], [(32, .ixor), (33, .iand), (34, .ifCond .eq 5), (37, .iconst 0), (38, .ireturn), (39, .iinc 2 1), (42, .goto (-40)), (45, .iconst 1), (46, .ireturn)]]
def k234 : xK := [[(0, .iload_n 1), (1, .i2l), (2, .lconst 0), (3, .lconst 1), (4, .invokestatic 127), (7, .ifCond .ne 5), (10, .iconst (-1)), (11, .ireturn), (12, .aload_n 0), (13, .invokevirtual 268)], [(16, .iconst 0), (17, .istore_n 2), (18, .iconst 1), (19, .istore_n 3), (20, .iload_n 3), (21, .iconst 1), (22, .aload_n 0), (23, .getfield 124), (26, .ishl), (27, .if_icmp .ge 34), (30, .iload_n 3), (31, .invokestatic 241)], [(34, .iload_n 2), (35, .invokestatic 241), (38, .if_icmp .le 15), (41, .aload_n 0), (42, .iload_n 3), (43, .invokevirtual 306), (46, .ifCond .eq 7)], [(49, .iload_n 3), (50, .goto 4), (53, .iload_n 2), (54, .istore_n 2), (55, .iinc 3 1), (58, .goto (-38)), (61, .iload_n 1), (62, .ifCond .ne 10)], [(65, .iload_n 2), (66, .invokestatic 241), (69, .goto 4), (72, .iload_n 2), (73, .ireturn)]]
def k235 : xK := [[(0, .aload_n 0), (1, .iload_n 1), (2, .invokevirtual 251), (5, .ifCond .ne 6), (8, .ldc 158), (10, .ireturn), (11, .iload_n 1), (12, .bipush 10), (14, .idiv), (15, .istore_n 2)], [(16, .iload_n 1), (17, .bipush 10), (19, .irem), (20, .istore_n 3), (21, .iconst (-1)), (22, .istore 4), (24, .iload 4), (26, .bipush 6), (28, .if_icmp .ge 69), (31, .aload_n 0)], [(32, .iload_n 2), (33, .iload 4), (35, .iconst 1), (36, .iadd), (37, .invokevirtual 297), (40, .ifCond .eq 51), (43, .aload_n 0), (44, .aload_n 0), (45, .getfield 9)], [(48, .iload_n 2), (49, .iaload), (50, .iload 4), (52, .invokestatic 165), (55, .aload_n 0), (56, .iload_n 3), (57, .invokevirtual 168), (60, .iload 4), (62, .invokestatic 244)], [(65, .aload_n 0), (66, .getfield 22), (69, .iload_n 3), (70, .iaload), (71, .invokestatic 244), (74, .iadd), (75, .aload_n 0), (76, .getfield 9), (79, .bipush 22)], [(81, .iaload), (82, .invokevirtual 247), (85, .ifCond .eq 6), (88, .iload 4), (90, .ireturn), (91, .iinc 4 1), (94, .goto (-70))], [(97, .bipush (-2)), (99, .ireturn)]]
def k236 : xK := [[(0, .aload_n 0), (1, .iload_n 1), (2, .invokevirtual 131), (5, .ifCond .eq 41), (8, .iload_n 2), (9, .ifCond .lt 37), (12, .iload_n 2), (13, .bipush 100), (15, .idiv)], [(16, .iload_n 2), (17, .bipush 100), (19, .irem), (20, .if_icmp .gt 26), (23, .iload_n 2), (24, .bipush 100), (26, .irem), (27, .bipush 30), (29, .if_icmp .ge 17)], [(32, .iload_n 3), (33, .i2l), (34, .ldc2_w 309), (37, .ldc2_w 311), (40, .invokestatic 127), (43, .ifCond .ne 5), (46, .iconst (-1)), (47, .ireturn)], [(48, .iload_n 2), (49, .bipush 100), (51, .idiv), (52, .istore 4), (54, .iload 4), (56, .iload_n 2), (57, .bipush 100), (59, .irem), (60, .if_icmp .gt 22), (63, .aload_n 0)], [(64, .getfield 74), (67, .bipush 30), (69, .iload_n 1), (70, .imul), (71, .iload 4), (73, .iadd), (74, .iload_n 3), (75, .iastore), (76, .iinc 4 1), (79, .goto (-25))], [(82, .iload_n 2), (83, .bipush 100), (85, .irem), (86, .iload_n 2), (87, .bipush 100), (89, .idiv), (90, .isub), (91, .iconst 1), (92, .iadd), (93, .ireturn)]]
def k237 : xK := [[(0, .iload_n 1), (1, .i2l), (2, .lconst 0), (3, .ldc2_w 313), (6, .invokestatic 127), (9, .ifCond .ne 5), (12, .iconst (-1)), (13, .ireturn), (14, .aload_n 0), (15, .invokevirtual 268)], [(18, .iconst 0), (19, .istore_n 2), (20, .iload_n 2), (21, .bipush 30), (23, .if_icmp .ge 114), (26, .iconst 0), (27, .istore_n 3), (28, .iload_n 3), (29, .aload_n 0), (30, .getfield 124)], [(33, .if_icmp .ge 98), (36, .iload_n 3), (37, .iconst 1), (38, .iadd), (39, .istore 4), (41, .iload 4), (43, .aload_n 0), (44, .getfield 124), (47, .if_icmp .ge 78)], [(50, .aload_n 0), (51, .getfield 74), (54, .bipush 30), (56, .iload_n 3), (57, .imul), (58, .iload_n 2), (59, .iadd), (60, .iaload), (61, .istore 5), (63, .iload 5)], [(65, .ifCond .lt 54), (68, .iload 5), (70, .aload_n 0), (71, .getfield 74), (74, .bipush 30), (76, .iload 4), (78, .imul), (79, .iload_n 2)], [(80, .iadd), (81, .iaload), (82, .if_icmp .ne 37), (85, .aload_n 0), (86, .getfield 43), (89, .iload_n 3), (90, .iaload), (91, .iload 4), (93, .invokestatic 154)], [(96, .ifCond .eq 23), (99, .iload_n 1), (100, .ifCond .ne 7), (103, .iload_n 2), (104, .goto 14), (107, .iload_n 1), (108, .iconst 1), (109, .if_icmp .ne 7)], [(112, .iload_n 3), (113, .goto 5), (116, .iload 4), (118, .ireturn), (119, .iinc 4 1), (122, .goto (-81)), (125, .iinc 3 1)], [(128, .goto (-100)), (131, .iinc 2 1), (134, .goto (-114)), (137, .bipush (-2)), (139, .ireturn)]]
def k238 : xK := [[(0, .aload_n 0), (1, .iload_n 1), (2, .invokevirtual 251), (5, .ifCond .eq 13), (8, .iload_n 2), (9, .i2l), (10, .lconst 0), (11, .lconst 1), (12, .invokestatic 127), (15, .ifCond .ne 5)], [(18, .iconst (-1)), (19, .ireturn), (20, .bipush (-2)), (22, .istore_n 3), (23, .iconst 0), (24, .istore 4), (26, .bipush 29), (28, .istore 5), (30, .iload 5)], [(32, .ifCond .lt 85), (35, .aload_n 0), (36, .getfield 74), (39, .bipush 30), (41, .iload_n 1), (42, .bipush 10), (44, .idiv), (45, .imul), (46, .iload 5)], [(48, .iadd), (49, .iaload), (50, .istore 6), (52, .aload_n 0), (53, .getfield 74), (56, .bipush 30), (58, .iload_n 1), (59, .bipush 10), (61, .irem), (62, .imul), (63, .iload 5)], [(65, .iadd), (66, .iaload), (67, .istore 7), (69, .iload 4), (71, .iload 6), (73, .iload 7), (75, .if_icmp .ne 7), (78, .iconst 0), (79, .goto 4)], [(82, .iconst 1), (83, .iadd), (84, .istore 4), (86, .iload 6), (88, .ifCond .lt 21), (91, .iload 6), (93, .iload 7), (95, .if_icmp .eq 14)], [(98, .bipush 10), (100, .iload 5), (102, .imul), (103, .iload 6), (105, .iadd), (106, .goto 4), (109, .iload_n 3), (110, .istore_n 3), (111, .iinc 5 (-1))], [(114, .goto (-84)), (117, .iload_n 2), (118, .ifCond .ne 7), (121, .iload_n 3), (122, .goto 5), (125, .iload 4), (127, .ireturn)]]
def k239 : xK := [[(0, .iload_n 1), (1, .ifCond .lt 28), (4, .iload_n 1), (5, .bipush 10), (7, .idiv), (8, .bipush 30), (10, .if_icmp .ge 19), (13, .iload_n 1), (14, .bipush 10)], [(16, .irem), (17, .iconst 5), (18, .if_icmp .ge 11), (21, .iload_n 2), (22, .i2l), (23, .invokestatic 137), (26, .ifCond .ne 5), (29, .iconst (-1)), (30, .ireturn), (31, .aload_n 0)], [(32, .getfield 184), (35, .bipush 10), (37, .if_icmp .ne 6), (40, .bipush (-3)), (42, .ireturn), (43, .aload_n 0), (44, .getfield 77), (47, .iconst 3)], [(48, .aload_n 0), (49, .getfield 184), (52, .imul), (53, .iload_n 1), (54, .bipush 10), (56, .idiv), (57, .iastore), (58, .aload_n 0), (59, .getfield 77), (62, .iconst 3), (63, .aload_n 0)], [(64, .getfield 184), (67, .imul), (68, .iconst 1), (69, .iadd), (70, .iload_n 1), (71, .bipush 10), (73, .irem), (74, .iastore), (75, .aload_n 0), (76, .getfield 77), (79, .iconst 3)], [(80, .aload_n 0), (81, .getfield 184), (84, .imul), (85, .iconst 2), (86, .iadd), (87, .iload_n 2), (88, .iastore), (89, .aload_n 0), (90, .dup), (91, .getfield 184), (94, .iconst 1), (95, .iadd)], [(96, .putfield 184), (99, .aload_n 0), (100, .getfield 184), (103, .iconst 1), (104, .isub), (105, .ireturn)]]
def k240 : xK := [[(0, .aload_n 0), (1, .getfield 77), (4, .iconst 3), (5, .iload_n 1), (6, .imul), (7, .iaload), (8, .aload_n 0), (9, .getfield 77), (12, .iconst 3), (13, .iload_n 2), (14, .imul), (15, .iaload)], [(16, .if_icmp .ne 7), (19, .iconst 1), (20, .goto 4), (23, .iconst 0), (24, .istore 4), (26, .aload_n 0), (27, .getfield 77), (30, .iconst 3), (31, .iload_n 1)], [(32, .imul), (33, .iconst 1), (34, .iadd), (35, .iaload), (36, .aload_n 0), (37, .getfield 77), (40, .iconst 3), (41, .iload_n 2), (42, .imul), (43, .iconst 1), (44, .iadd), (45, .iaload), (46, .if_icmp .ne 26)], [(49, .aload_n 0), (50, .getfield 77), (53, .iconst 3), (54, .iload_n 1), (55, .imul), (56, .iconst 2), (57, .iadd), (58, .iaload), (59, .aload_n 0), (60, .getfield 77), (63, .iconst 3)], [(64, .iload_n 2), (65, .imul), (66, .iconst 2), (67, .iadd), (68, .iaload), (69, .if_icmp .eq 7), (72, .iconst 1), (73, .goto 4), (76, .iconst 0), (77, .istore 5), (79, .iload 4)], [(81, .ifCond .eq 8), (84, .iload 5), (86, .ifCond .ne 31), (89, .aload_n 0), (90, .getfield 77), (93, .iconst 3), (94, .iload_n 1), (95, .imul)], [(96, .iconst 2), (97, .iadd), (98, .iaload), (99, .aload_n 0), (100, .getfield 77), (103, .iconst 3), (104, .iload_n 2), (105, .imul), (106, .iconst 2), (107, .iadd), (108, .iaload), (109, .ixor), (110, .invokestatic 241)], [(113, .iload_n 3), (114, .if_icmp .le 7), (117, .iconst 1), (118, .goto 4), (121, .iconst 0), (122, .ireturn)]]
def k241 : xK := [[(0, .iconst 0), (1, .istore_n 2), (2, .iload_n 2), (3, .aload_n 0), (4, .getfield 184), (7, .if_icmp .ge 30), (10, .iload_n 1), (11, .iload_n 2), (12, .invokestatic 154), (15, .ifCond .eq 16)], [(18, .aload_n 0), (19, .getfield 80), (22, .iload_n 2), (23, .iaload), (24, .iload_n 1), (25, .iand), (26, .ifCond .eq 5), (29, .iconst 0), (30, .ireturn), (31, .iinc 2 1)], [(34, .goto (-32)), (37, .iconst 1), (38, .ireturn)]]
def k242 : xK := [[(0, .iload_n 1), (1, .i2l), (2, .lconst 0), (3, .ldc2_w 150), (6, .invokestatic 127), (9, .ifCond .ne 5), (12, .iconst (-1)), (13, .ireturn), (14, .iconst 0), (15, .istore_n 2)], [(16, .iload_n 2), (17, .aload_n 0), (18, .getfield 184), (21, .if_icmp .ge 63), (24, .aload_n 0), (25, .getfield 80), (28, .iload_n 2), (29, .iconst 0), (30, .iastore), (31, .iconst 0)], [(32, .istore_n 3), (33, .iload_n 3), (34, .aload_n 0), (35, .getfield 184), (38, .if_icmp .ge 40), (41, .aload_n 0), (42, .getfield 80), (45, .iload_n 2), (46, .dup2), (47, .iaload)], [(48, .iload_n 2), (49, .iload_n 3), (50, .if_icmp .eq 19), (53, .aload_n 0), (54, .iload_n 2), (55, .iload_n 3), (56, .iload_n 1), (57, .invokevirtual 315), (60, .ifCond .eq 9), (63, .iconst 1)], [(64, .iload_n 3), (65, .ishl), (66, .goto 4), (69, .iconst 0), (70, .ior), (71, .iastore), (72, .iinc 3 1), (75, .goto (-42)), (78, .iinc 2 1)], [(81, .goto (-65)), (84, .aload_n 0), (85, .getfield 83), (88, .iconst 0), (89, .iconst 0), (90, .iastore), (91, .iconst 1), (92, .istore_n 2), (93, .iload_n 2), (94, .iconst 1), (95, .aload_n 0)], [(96, .getfield 184), (99, .ishl), (100, .if_icmp .ge 109), (103, .aload_n 0), (104, .getfield 83), (107, .iload_n 2), (108, .bipush 11), (110, .iastore), (111, .iload_n 2)], [(112, .istore_n 3), (113, .iload_n 3), (114, .ifCond .le 89), (117, .iload_n 3), (118, .iload_n 2), (119, .iand), (120, .iload_n 2), (121, .ineg), (122, .iand), (123, .ifCond .eq 28), (126, .aload_n 0), (127, .getfield 83)], [(130, .iload_n 2), (131, .iload_n 3), (132, .iconst (-1)), (133, .ixor), (134, .iand), (135, .iaload), (136, .iconst 1), (137, .iadd), (138, .aload_n 0), (139, .getfield 83), (142, .iload_n 2), (143, .iaload)], [(144, .if_icmp .ge 7), (147, .iconst 1), (148, .goto 4), (151, .iconst 0), (152, .istore 4), (154, .aload_n 0), (155, .getfield 83), (158, .iload_n 2), (159, .iload 4)], [(161, .ifCond .eq 26), (164, .aload_n 0), (165, .iload_n 3), (166, .invokevirtual 318), (169, .ifCond .eq 18), (172, .aload_n 0), (173, .getfield 83)], [(176, .iload_n 2), (177, .iload_n 3), (178, .iconst (-1)), (179, .ixor), (180, .iand), (181, .iaload), (182, .iconst 1), (183, .iadd), (184, .goto 9), (187, .aload_n 0), (188, .getfield 83), (191, .iload_n 2)], [(192, .iaload), (193, .iastore), (194, .iload_n 3), (195, .iconst 1), (196, .isub), (197, .iload_n 2), (198, .iand), (199, .istore_n 3), (200, .goto (-87)), (203, .iinc 2 1), (206, .goto (-113))], [(209, .aload_n 0), (210, .getfield 83), (213, .iconst 1), (214, .aload_n 0), (215, .getfield 184), (218, .ishl), (219, .iconst 1), (220, .isub), (221, .iaload), (222, .ireturn)]]
def k243 : xK := [[(0, .iload_n 2), (1, .aload_n 0), (2, .iload_n 1), (3, .invokevirtual 168), (6, .if_icmp .ne 5), (9, .iconst 1), (10, .ireturn), (11, .iconst 0), (12, .istore_n 3), (13, .iload_n 3), (14, .bipush 7)], [(16, .if_icmp .ge 36), (19, .aload_n 0), (20, .iload_n 1), (21, .iload_n 3), (22, .invokevirtual 297), (25, .ifCond .eq 21), (28, .aload_n 0), (29, .getfield 9)], [(32, .iload_n 1), (33, .iaload), (34, .iload_n 3), (35, .iconst 1), (36, .isub), (37, .invokestatic 165), (40, .iload_n 2), (41, .if_icmp .ne 5), (44, .iconst 1), (45, .ireturn), (46, .iinc 3 1)], [(49, .goto (-36)), (52, .iconst 0), (53, .ireturn)]]
def k244 : xK := [[(0, .iconst 0), (1, .istore_n 2), (2, .iconst 0), (3, .istore_n 3), (4, .iload_n 3), (5, .aload_n 0), (6, .getfield 124), (9, .if_icmp .ge 37), (12, .iload_n 2), (13, .aload_n 0), (14, .iload_n 3), (15, .aload_n 0)], [(16, .getfield 77), (19, .iconst 3), (20, .iload_n 1), (21, .imul), (22, .iconst 2), (23, .iadd), (24, .iaload), (25, .invokevirtual 321), (28, .ifCond .eq 9), (31, .iconst 1)], [(32, .iload_n 3), (33, .ishl), (34, .goto 4), (37, .iconst 0), (38, .ior), (39, .istore_n 2), (40, .iinc 3 1), (43, .goto (-39)), (46, .iload_n 2), (47, .ireturn)]]
def k245 : xK := [[(0, .iload_n 1), (1, .i2l), (2, .lconst 0), (3, .aload_n 0), (4, .getfield 184), (7, .iconst 1), (8, .isub), (9, .i2l), (10, .invokestatic 127), (13, .ifCond .eq 11)], [(16, .aload_n 0), (17, .iload_n 1), (18, .invokevirtual 324), (21, .goto 4), (24, .iconst (-1)), (25, .ireturn)]]
def k246 : xK := [[(0, .iload_n 1), (1, .i2l), (2, .lconst 0), (3, .ldc2_w 284), (6, .invokestatic 127), (9, .ifCond .eq 13), (12, .iload_n 2), (13, .i2l), (14, .lconst 0), (15, .lconst 1)], [(16, .invokestatic 127), (19, .ifCond .ne 5), (22, .iconst (-1)), (23, .ireturn), (24, .iconst 1), (25, .aload_n 0), (26, .getfield 124), (29, .ishl), (30, .iconst 1), (31, .isub)], [(32, .istore_n 3), (33, .iconst 0), (34, .istore 4), (36, .iload 4), (38, .aload_n 0), (39, .getfield 184), (42, .if_icmp .ge 37), (45, .iload_n 3), (46, .aload_n 0), (47, .getfield 77)], [(50, .iconst 3), (51, .iload 4), (53, .imul), (54, .iaload), (55, .iload_n 1), (56, .if_icmp .lt 14), (59, .aload_n 0), (60, .iload 4), (62, .invokevirtual 324)], [(65, .iconst (-1)), (66, .ixor), (67, .goto 4), (70, .iconst (-1)), (71, .iand), (72, .istore_n 3), (73, .iinc 4 1), (76, .goto (-40)), (79, .iload_n 2)], [(80, .ifCond .ne 5), (83, .iload_n 3), (84, .ireturn), (85, .aload_n 0), (86, .invokevirtual 268), (89, .iconst 0), (90, .istore 4), (92, .iconst 0), (93, .istore 5), (95, .iload 5)], [(97, .aload_n 0), (98, .getfield 124), (101, .if_icmp .ge 45), (104, .iload 4), (106, .iload_n 3), (107, .iload 5), (109, .invokestatic 154)], [(112, .ifCond .eq 24), (115, .aload_n 0), (116, .getfield 43), (119, .iload 5), (121, .iaload), (122, .iload_n 3), (123, .iconst (-1)), (124, .ixor), (125, .iand), (126, .ifCond .eq 10)], [(129, .iconst 1), (130, .iload 5), (132, .ishl), (133, .goto 4), (136, .iconst 0), (137, .ior), (138, .istore 4), (140, .iinc 5 1), (143, .goto (-48))], [(146, .iload 4), (148, .ireturn)]]
def k247 : xK := [[(0, .iload_n 1), (1, .i2l), (2, .lconst 1), (3, .ldc2_w 327), (6, .invokestatic 127), (9, .ifCond .ne 5), (12, .iconst (-1)), (13, .ireturn), (14, .aload_n 0), (15, .getfield 9)], [(18, .bipush 22), (20, .iaload), (21, .iload_n 1), (22, .iadd), (23, .bipush 12), (25, .irem), (26, .istore_n 2), (27, .iconst 0), (28, .istore_n 3), (29, .iconst 0), (30, .istore 4)], [(32, .iload 4), (34, .aload_n 0), (35, .getfield 124), (38, .if_icmp .ge 126), (41, .iconst 0), (42, .istore 5), (44, .iload 5), (46, .iload 4)], [(48, .if_icmp .ge 110), (51, .aload_n 0), (52, .iload 4), (54, .invokevirtual 168), (57, .iload_n 1), (58, .iconst 2), (59, .irem), (60, .iconst 1), (61, .if_icmp .ne 16)], [(64, .aload_n 0), (65, .getfield 9), (68, .bipush 14), (70, .iload 4), (72, .iadd), (73, .iaload), (74, .goto 4), (77, .iconst 0), (78, .ixor), (79, .istore 6)], [(81, .aload_n 0), (82, .iload 5), (84, .invokevirtual 168), (87, .iload_n 1), (88, .iconst 2), (89, .irem), (90, .iconst 1), (91, .if_icmp .ne 16), (94, .aload_n 0), (95, .getfield 9)], [(98, .bipush 14), (100, .iload 5), (102, .iadd), (103, .iaload), (104, .goto 4), (107, .iconst 0), (108, .ixor), (109, .istore 7), (111, .iload_n 3)], [(112, .aload_n 0), (113, .iload 6), (115, .iload 7), (117, .aload_n 0), (118, .getfield 22), (121, .iload 4), (123, .iaload), (124, .invokestatic 244), (127, .aload_n 0)], [(128, .getfield 22), (131, .iload 5), (133, .iaload), (134, .invokestatic 244), (137, .iadd), (138, .iload_n 2), (139, .invokevirtual 247), (142, .ifCond .eq 7)], [(145, .iconst 1), (146, .goto 4), (149, .iconst 0), (150, .iadd), (151, .istore_n 3), (152, .iinc 5 1), (155, .goto (-111)), (158, .iinc 4 1)], [(161, .goto (-129)), (164, .iload_n 3), (165, .ireturn)]]
def k248 : xK := [[(0, .iconst 0), (1, .istore_n 1), (2, .iload_n 1), (3, .aload_n 0), (4, .getfield 124), (7, .if_icmp .ge 27), (10, .aload_n 0), (11, .getfield 9), (14, .iload_n 1), (15, .dup2)], [(16, .iaload), (17, .aload_n 0), (18, .getfield 9), (21, .bipush 14), (23, .iload_n 1), (24, .iadd), (25, .iaload), (26, .ixor), (27, .iastore), (28, .iinc 1 1), (31, .goto (-29))], [(34, .aload_n 0), (35, .getfield 9), (38, .bipush 22), (40, .aload_n 0), (41, .getfield 9), (44, .bipush 22), (46, .iaload), (47, .iconst 1)], [(48, .iadd), (49, .bipush 12), (51, .irem), (52, .iastore), (53, .aload_n 0), (54, .getfield 9), (57, .bipush 22), (59, .iaload), (60, .ireturn)]]
def k249 : xK := [[(0, .aload_n 0), (1, .iconst 1), (2, .putfield 329), (5, .aload_n 0), (6, .aload_n 0), (7, .getfield 124), (10, .putfield 333), (13, .aload_n 0), (14, .aload_n 0), (15, .getfield 184)], [(18, .putfield 336), (21, .iconst 0), (22, .istore_n 1), (23, .iload_n 1), (24, .bipush 7), (26, .if_icmp .ge 33), (29, .aload_n 0), (30, .getfield 86)], [(33, .iload_n 1), (34, .iload_n 1), (35, .aload_n 0), (36, .getfield 124), (39, .if_icmp .ge 12), (42, .aload_n 0), (43, .getfield 22), (46, .iload_n 1), (47, .iaload)], [(48, .goto 4), (51, .iconst (-1)), (52, .iastore), (53, .iinc 1 1), (56, .goto (-33)), (59, .iconst 0), (60, .istore_n 1), (61, .iload_n 1), (62, .sipush 210)], [(65, .if_icmp .ge 21), (68, .aload_n 0), (69, .getfield 89), (72, .iload_n 1), (73, .aload_n 0), (74, .getfield 74), (77, .iload_n 1), (78, .iaload), (79, .iastore)], [(80, .iinc 1 1), (83, .goto (-22)), (86, .iconst 0), (87, .istore_n 1), (88, .iload_n 1), (89, .bipush 30), (91, .if_icmp .ge 21), (94, .aload_n 0), (95, .getfield 92)], [(98, .iload_n 1), (99, .aload_n 0), (100, .getfield 77), (103, .iload_n 1), (104, .iaload), (105, .iastore), (106, .iinc 1 1), (109, .goto (-21))], [(112, .aload_n 0), (113, .getfield 124), (116, .ireturn)]]
def k250 : xK := [[(0, .aload_n 0), (1, .getfield 329), (4, .ifCond .ne 6), (7, .bipush (-5)), (9, .ireturn), (10, .aload_n 0), (11, .aload_n 0), (12, .getfield 336), (15, .putfield 184)], [(18, .iconst 0), (19, .istore_n 1), (20, .iload_n 1), (21, .bipush 7), (23, .if_icmp .ge 21), (26, .aload_n 0), (27, .getfield 22), (30, .iload_n 1), (31, .aload_n 0)], [(32, .getfield 86), (35, .iload_n 1), (36, .iaload), (37, .iastore), (38, .iinc 1 1), (41, .goto (-21)), (44, .iconst 0), (45, .istore_n 1), (46, .iload_n 1), (47, .sipush 210)], [(50, .if_icmp .ge 21), (53, .aload_n 0), (54, .getfield 74), (57, .iload_n 1), (58, .aload_n 0), (59, .getfield 89), (62, .iload_n 1), (63, .iaload)], [(64, .iastore), (65, .iinc 1 1), (68, .goto (-22)), (71, .iconst 0), (72, .istore_n 1), (73, .iload_n 1), (74, .bipush 30), (76, .if_icmp .ge 21), (79, .aload_n 0)], [(80, .getfield 77), (83, .iload_n 1), (84, .aload_n 0), (85, .getfield 92), (88, .iload_n 1), (89, .iaload), (90, .iastore), (91, .iinc 1 1), (94, .goto (-21))], [(97, .aload_n 0), (98, .getfield 333), (101, .ireturn)]]
def k251 : xK := [[(0, .iconst 0), (1, .istore_n 1), (2, .iconst 0), (3, .istore_n 2), (4, .iload_n 2), (5, .aload_n 0), (6, .getfield 124), (9, .if_icmp .ge 18), (12, .iload_n 1), (13, .aload_n 0), (14, .getfield 25)], [(17, .iload_n 2), (18, .iaload), (19, .iadd), (20, .istore_n 1), (21, .iinc 2 1), (24, .goto (-20)), (27, .iload_n 1), (28, .ireturn)]]
def k252 : xK := [[(0, .iload_n 1), (1, .i2l), (2, .lconst 0), (3, .aload_n 0), (4, .getfield 339), (7, .iconst 1), (8, .isub), (9, .i2l), (10, .invokestatic 127), (13, .ireturn)]]
def k253 : xK := [[(0, .aload_n 0), (1, .getfield 95), (4, .iload_n 1), (5, .iaload), (6, .ireturn)]]
def k254 : xK := [[(0, .iload_n 1), (1, .i2l), (2, .lconst 0), (3, .ldc2_w 148), (6, .invokestatic 127), (9, .ifCond .ne 5), (12, .iconst (-1)), (13, .ireturn), (14, .aload_n 0), (15, .getfield 339)], [(18, .bipush 50), (20, .if_icmp .ne 6), (23, .bipush (-3)), (25, .ireturn), (26, .aload_n 0), (27, .getfield 95), (30, .aload_n 0), (31, .getfield 339)], [(34, .iload_n 1), (35, .iastore), (36, .aload_n 0), (37, .dup), (38, .getfield 339), (41, .iconst 1), (42, .iadd), (43, .putfield 339), (46, .aload_n 0), (47, .getfield 339)], [(50, .iconst 1), (51, .isub), (52, .ireturn)]]
def k255 : xK := [[(0, .iload_n 0), (1, .iconst 3), (2, .if_icmp .ne 7), (5, .iconst 2), (6, .goto 32), (9, .iload_n 0), (10, .iconst 4), (11, .if_icmp .ne 7), (14, .iconst 1), (15, .goto 23)], [(18, .iload_n 0), (19, .iconst 5), (20, .if_icmp .ne 7), (23, .iconst 3), (24, .goto 14), (27, .iload_n 0), (28, .bipush 7), (30, .if_icmp .ne 7)], [(33, .iconst 4), (34, .goto 4), (37, .iconst 0), (38, .ireturn)]]
def k256 : xK := [[(0, .aload_n 0), (1, .getfield 342), (4, .bipush 24), (6, .if_icmp .ge 13), (9, .aload_n 0), (10, .getfield 98), (13, .aload_n 0), (14, .getfield 342)], [(17, .iload_n 1), (18, .iastore), (19, .aload_n 0), (20, .dup), (21, .getfield 342), (24, .iconst 1), (25, .iadd), (26, .putfield 342), (29, .return_)]]
def k257 : xK := [[(0, .iload_n 1), (1, .iconst 1), (2, .if_icmp .eq 14), (5, .iload_n 1), (6, .iconst 4), (7, .if_icmp .eq 9), (10, .iload_n 1), (11, .bipush 7), (13, .if_icmp .ne 18)], [(16, .aload_n 0), (17, .bipush 20), (19, .invokevirtual 345), (22, .aload_n 0), (23, .iconst 0), (24, .iload_n 2), (25, .invokevirtual 348), (28, .iconst 3), (29, .iadd), (30, .ireturn), (31, .iload_n 1)], [(32, .bipush 6), (34, .if_icmp .ne 18), (37, .aload_n 0), (38, .bipush 70), (40, .invokevirtual 345), (43, .aload_n 0), (44, .iconst 0), (45, .iload_n 2), (46, .invokevirtual 348)], [(49, .iconst 2), (50, .imul), (51, .ireturn), (52, .aload_n 0), (53, .iconst 1), (54, .invokevirtual 345), (57, .iload_n 2), (58, .aload_n 0), (59, .getfield 351), (62, .iadd), (63, .ireturn)]]
def k258 : xK := [[(0, .iload_n 1), (1, .iconst 3), (2, .if_icmp .eq 8), (5, .iload_n 1), (6, .iconst 5), (7, .if_icmp .ne 18), (10, .aload_n 0), (11, .bipush 41), (13, .invokevirtual 345)], [(16, .aload_n 0), (17, .iconst 2), (18, .iload_n 2), (19, .iconst 1), (20, .iadd), (21, .invokevirtual 354), (24, .ireturn), (25, .iload_n 1), (26, .iconst 2), (27, .if_icmp .ne 17), (30, .aload_n 0), (31, .bipush 30)], [(33, .invokevirtual 345), (36, .aload_n 0), (37, .iconst 0), (38, .iload_n 2), (39, .invokevirtual 354), (42, .ineg), (43, .ireturn), (44, .iload_n 1), (45, .bipush 7), (47, .if_icmp .ne 28)], [(50, .aload_n 0), (51, .bipush 80), (53, .invokevirtual 345), (56, .aload_n 0), (57, .iconst 4), (58, .iload_n 2), (59, .invokevirtual 354), (62, .istore_n 3), (63, .iload_n 3)], [(64, .aload_n 0), (65, .aload_n 0), (66, .getfield 357), (69, .iconst 2), (70, .invokevirtual 360), (73, .iadd), (74, .ireturn), (75, .aload_n 0), (76, .bipush 10), (78, .invokevirtual 345)], [(81, .aload_n 0), (82, .aload_n 0), (83, .getfield 357), (86, .iload_n 2), (87, .invokevirtual 348), (90, .iconst 2), (91, .imul), (92, .ireturn)]]
def k259 : xK := [[(0, .iload_n 1), (1, .iconst 3), (2, .if_icmp .eq 8), (5, .iload_n 1), (6, .iconst 5), (7, .if_icmp .ne 18), (10, .aload_n 0), (11, .bipush 40), (13, .invokevirtual 345)], [(16, .aload_n 0), (17, .iconst 2), (18, .iload_n 2), (19, .invokevirtual 360), (22, .iconst 3), (23, .imul), (24, .ireturn), (25, .iload_n 1), (26, .iconst 4), (27, .if_icmp .eq 9), (30, .iload_n 1), (31, .bipush 7)], [(33, .if_icmp .ne 28), (36, .aload_n 0), (37, .bipush 50), (39, .invokevirtual 345), (42, .aload_n 0), (43, .iconst 1), (44, .iload_n 2), (45, .invokevirtual 360)], [(48, .istore_n 3), (49, .iload_n 3), (50, .aload_n 0), (51, .aload_n 0), (52, .getfield 357), (55, .iconst 2), (56, .invokevirtual 348), (59, .isub), (60, .ireturn), (61, .aload_n 0), (62, .bipush 11)], [(64, .invokevirtual 345), (67, .iload_n 2), (68, .aload_n 0), (69, .getfield 351), (72, .ixor), (73, .ireturn)]]
def k260 : xK := [[(0, .iload_n 1), (1, .iconst 5), (2, .if_icmp .ne 18), (5, .aload_n 0), (6, .bipush 60), (8, .invokevirtual 345), (11, .aload_n 0), (12, .iconst 3), (13, .iload_n 2), (14, .invokevirtual 363)], [(17, .iconst 5), (18, .ixor), (19, .ireturn), (20, .iload_n 1), (21, .bipush 7), (23, .if_icmp .ne 18), (26, .aload_n 0), (27, .bipush 81), (29, .invokevirtual 345)], [(32, .aload_n 0), (33, .iconst 4), (34, .iload_n 2), (35, .invokevirtual 363), (38, .iconst 1), (39, .isub), (40, .ireturn), (41, .aload_n 0), (42, .iconst 2), (43, .invokevirtual 345), (46, .aload_n 0), (47, .aload_n 0)], [(48, .getfield 357), (51, .iload_n 2), (52, .invokevirtual 354), (55, .istore_n 3), (56, .iload_n 3), (57, .aload_n 0), (58, .aload_n 0), (59, .getfield 357), (62, .iconst 1), (63, .invokevirtual 360)], [(66, .isub), (67, .ireturn)]]
def k261 : xK := [[(0, .aload_n 0), (1, .iconst 0), (2, .putfield 342), (5, .aload_n 0), (6, .iload_n 1), (7, .invokevirtual 366), (10, .ifCond .ne 5), (13, .iconst 0), (14, .ireturn), (15, .aload_n 0)], [(16, .aload_n 0), (17, .getfield 95), (20, .iload_n 1), (21, .iaload), (22, .putfield 357), (25, .aload_n 0), (26, .iload_n 1), (27, .putfield 351), (30, .iload_n 2), (31, .tableswitch 69 0 3 #[29, 39, 49, 59])], [], [(60, .aload_n 0), (61, .aload_n 0), (62, .getfield 357)], [(65, .iload_n 3), (66, .invokevirtual 348), (69, .ireturn), (70, .aload_n 0), (71, .aload_n 0), (72, .getfield 357), (75, .iload_n 3), (76, .invokevirtual 354), (79, .ireturn)], [(80, .aload_n 0), (81, .aload_n 0), (82, .getfield 357), (85, .iload_n 3), (86, .invokevirtual 360), (89, .ireturn), (90, .aload_n 0), (91, .aload_n 0), (92, .getfield 357), (95, .iload_n 3)], [(96, .invokevirtual 363), (99, .ireturn), (100, .iconst 0), (101, .ireturn)]]
def k262 : xK := [[(0, .iload_n 1), (1, .ifCond .lt 26), (4, .iload_n 1), (5, .aload_n 0), (6, .getfield 342), (9, .if_icmp .ge 18), (12, .iload_n 1), (13, .bipush 24), (15, .if_icmp .ge 12)], [(18, .aload_n 0), (19, .getfield 98), (22, .iload_n 1), (23, .iaload), (24, .goto 4), (27, .iconst (-1)), (28, .ireturn)]]
def k263 : xK := [[(0, .iload_n 0), (1, .i2l), (2, .lconst 0), (3, .ldc2_w 152), (6, .invokestatic 127), (9, .ireturn)]]
def k264 : xK := [[(0, .iload_n 1), (1, .invokestatic 145), (4, .ifCond .eq 16), (7, .iload_n 2), (8, .iconst (-1)), (9, .if_icmp .eq 13), (12, .aload_n 0), (13, .iload_n 2), (14, .invokevirtual 366)], [(17, .ifCond .ne 5), (20, .iconst (-1)), (21, .ireturn), (22, .aload_n 0), (23, .getfield 101), (26, .iload_n 1), (27, .iload_n 2), (28, .iastore), (29, .aload_n 0), (30, .getfield 104)], [(33, .iload_n 1), (34, .iconst 0), (35, .iastore), (36, .iconst 1), (37, .ireturn)]]
def k265 : xK := [[(0, .iload_n 1), (1, .invokestatic 145), (4, .ifCond .eq 21), (7, .iload_n 2), (8, .i2l), (9, .lconst 0), (10, .ldc2_w 311), (13, .invokestatic 127)], [(16, .ifCond .eq 9), (19, .iload_n 3), (20, .bipush 60), (22, .if_icmp .le 5), (25, .iconst (-1)), (26, .ireturn), (27, .iload_n 3), (28, .ifCond .ge 6), (31, .bipush (-14))], [(33, .ireturn), (34, .aload_n 0), (35, .getfield 101), (38, .iload_n 1), (39, .bipush 50), (41, .iload_n 2), (42, .iadd), (43, .iastore), (44, .aload_n 0), (45, .getfield 104)], [(48, .iload_n 1), (49, .iload_n 3), (50, .iastore), (51, .bipush 60), (53, .iload_n 1), (54, .imul), (55, .istore 4), (57, .iload 4), (59, .bipush 60), (61, .iload_n 1), (62, .imul), (63, .bipush 60)], [(65, .iadd), (66, .if_icmp .ge 17), (69, .aload_n 0), (70, .getfield 107), (73, .iload 4), (75, .lconst 0), (76, .lastore), (77, .iinc 4 1)], [(80, .goto (-23)), (83, .iconst 1), (84, .ireturn)]]
def k266 : xK := [[(0, .iload_n 1), (1, .invokestatic 145), (4, .ifCond .ne 5), (7, .iconst (-1)), (8, .ireturn), (9, .aload_n 0), (10, .getfield 101), (13, .iload_n 1), (14, .iaload), (15, .ifCond .ge 6)], [(18, .bipush (-11)), (20, .ireturn), (21, .aload_n 0), (22, .getfield 101), (25, .iload_n 1), (26, .iaload), (27, .bipush 50), (29, .if_icmp .ge 6)], [(32, .bipush (-12)), (34, .ireturn), (35, .iload_n 2), (36, .ifCond .lt 17), (39, .iload_n 2), (40, .aload_n 0), (41, .getfield 104), (44, .iload_n 1), (45, .iaload), (46, .if_icmp .ge 7)], [(49, .iconst 0), (50, .goto 5), (53, .bipush (-13)), (55, .ireturn)]]
def k267 : xK := [[(0, .iload_n 0), (1, .ifCond .ne 10), (4, .lload_n 1), (5, .l2i), (6, .i2b), (7, .i2l), (8, .goto 46), (11, .iload_n 0), (12, .iconst 1), (13, .if_icmp .ne 10)], [(16, .lload_n 1), (17, .l2i), (18, .i2s), (19, .i2l), (20, .goto 34), (23, .iload_n 0), (24, .iconst 2), (25, .if_icmp .ne 9), (28, .lload_n 1), (29, .l2i), (30, .i2l), (31, .goto 23)], [(34, .iload_n 0), (35, .iconst 4), (36, .if_icmp .ne 17), (39, .lload_n 1), (40, .lconst 0), (41, .lcmp), (42, .ifCond .eq 7), (45, .lconst 1), (46, .goto 8)], [(49, .lconst 0), (50, .goto 4), (53, .lload_n 1), (54, .lreturn)]]
def k268 : xK := [[(0, .aload_n 0), (1, .iload_n 1), (2, .iload_n 2), (3, .invokevirtual 369), (6, .istore 5), (8, .iload 5), (10, .ifCond .ne 27), (13, .aload_n 0), (14, .getfield 107)], [(17, .bipush 60), (19, .iload_n 1), (20, .imul), (21, .iload_n 2), (22, .iadd), (23, .aload_n 0), (24, .getfield 101), (27, .iload_n 1), (28, .iaload), (29, .bipush 50), (31, .isub)], [(32, .lload_n 3), (33, .invokestatic 372), (36, .lastore), (37, .iload 5), (39, .ifCond .ne 7), (42, .iconst 1), (43, .goto 5), (46, .iload 5)], [(48, .ireturn)]]
def k269 : xK := [[(0, .aload_n 0), (1, .iload_n 1), (2, .iload_n 2), (3, .invokevirtual 369), (6, .ifCond .eq 9), (9, .ldc2_w 378), (12, .goto 14), (15, .aload_n 0)], [(16, .getfield 107), (19, .bipush 60), (21, .iload_n 1), (22, .imul), (23, .iload_n 2), (24, .iadd), (25, .laload), (26, .lreturn)]]
def k270 : xK := [[(0, .iload_n 1), (1, .invokestatic 145), (4, .ifCond .eq 10), (7, .iload_n 3), (8, .invokestatic 145), (11, .ifCond .ne 5), (14, .iconst (-1)), (15, .ireturn)], [(16, .aload_n 0), (17, .getfield 101), (20, .iload_n 1), (21, .iaload), (22, .ifCond .lt 12), (25, .aload_n 0), (26, .getfield 101), (29, .iload_n 3), (30, .iaload), (31, .ifCond .ge 6)], [(34, .bipush (-11)), (36, .ireturn), (37, .aload_n 0), (38, .getfield 101), (41, .iload_n 1), (42, .iaload), (43, .bipush 50), (45, .if_icmp .lt 18)], [(48, .aload_n 0), (49, .getfield 101), (52, .iload_n 1), (53, .iaload), (54, .aload_n 0), (55, .getfield 101), (58, .iload_n 3), (59, .iaload), (60, .if_icmp .eq 6), (63, .bipush (-12))], [(65, .ireturn), (66, .iload 5), (68, .ifCond .lt 39), (71, .iload_n 2), (72, .ifCond .lt 35), (75, .iload 4), (77, .ifCond .lt 30)], [(80, .iload_n 2), (81, .aload_n 0), (82, .getfield 104), (85, .iload_n 1), (86, .iaload), (87, .iload 5), (89, .isub), (90, .if_icmp .gt 17), (93, .iload 4), (95, .aload_n 0)], [(96, .getfield 104), (99, .iload_n 3), (100, .iaload), (101, .iload 5), (103, .isub), (104, .if_icmp .le 6), (107, .bipush (-13)), (109, .ireturn), (110, .iconst 0), (111, .istore 6)], [(113, .iload 6), (115, .iload 5), (117, .if_icmp .ge 30), (120, .aload_n 0), (121, .getfield 111), (124, .iload 6), (126, .aload_n 0), (127, .getfield 107)], [(130, .bipush 60), (132, .iload_n 1), (133, .imul), (134, .iload_n 2), (135, .iadd), (136, .iload 6), (138, .iadd), (139, .laload), (140, .lastore), (141, .iinc 6 1)], [(144, .goto (-31)), (147, .iconst 0), (148, .istore 6), (150, .iload 6), (152, .iload 5), (154, .if_icmp .ge 31), (157, .aload_n 0), (158, .getfield 107)], [(161, .bipush 60), (163, .iload_n 3), (164, .imul), (165, .iload 4), (167, .iadd), (168, .iload 6), (170, .iadd), (171, .aload_n 0), (172, .getfield 111), (175, .iload 6)], [(177, .laload), (178, .lastore), (179, .iinc 6 1), (182, .goto (-32)), (185, .iload 5), (187, .ireturn)]]
def k271 : xK := [[(0, .iload_n 1), (1, .invokestatic 145), (4, .ifCond .eq 15), (7, .iload_n 2), (8, .i2l), (9, .lconst 0), (10, .ldc2_w 148), (13, .invokestatic 127)], [(16, .ifCond .ne 5), (19, .iconst (-1)), (20, .ireturn), (21, .aload_n 0), (22, .getfield 101), (25, .iload_n 1), (26, .iaload), (27, .ifCond .ge 6), (30, .bipush (-11))], [(32, .ireturn), (33, .aload_n 0), (34, .getfield 101), (37, .iload_n 1), (38, .iaload), (39, .bipush 50), (41, .if_icmp .lt 6), (44, .bipush (-12)), (46, .ireturn), (47, .aload_n 0)], [(48, .aload_n 0), (49, .getfield 101), (52, .iload_n 1), (53, .iaload), (54, .invokevirtual 380), (57, .istore_n 3), (58, .iload_n 3), (59, .iload_n 2), (60, .if_icmp .eq 15), (63, .iload_n 3)], [(64, .ifCond .le 11), (67, .iload_n 3), (68, .invokestatic 383), (71, .istore_n 3), (72, .goto (-14)), (75, .iload_n 3), (76, .iload_n 2), (77, .if_icmp .ne 16)], [(80, .aload_n 0), (81, .aload_n 0), (82, .getfield 101), (85, .iload_n 1), (86, .iaload), (87, .invokevirtual 380), (90, .goto 5), (93, .bipush (-12)), (95, .ireturn)]]
def k272 : xK := [[(0, .iload_n 1), (1, .tableswitch 78 0 6 #[43, 48, 53, 58, 63, 68, 73])], [], [(44, .aload_n 0), (45, .getfield 124)], [(48, .ireturn), (49, .aload_n 0), (50, .invokevirtual 386), (53, .ireturn), (54, .aload_n 0), (55, .getfield 184), (58, .ireturn), (59, .aload_n 0), (60, .getfield 189), (63, .ireturn)], [(64, .aload_n 0), (65, .getfield 118), (68, .ireturn), (69, .aload_n 0), (70, .getfield 339), (73, .ireturn), (74, .aload_n 0), (75, .getfield 342), (78, .ireturn), (79, .iconst (-1))], [(80, .ireturn)]]
def k273 : xK := [[(0, .iload_n 0), (1, .iload_n 0), (2, .iconst 1), (3, .iushr), (4, .ldc_w 265), (7, .iand), (8, .isub), (9, .istore_n 0), (10, .iload_n 0), (11, .ldc_w 266), (14, .iand), (15, .iload_n 0)], [(16, .iconst 2), (17, .iushr), (18, .ldc_w 266), (21, .iand), (22, .iadd), (23, .istore_n 0), (24, .iload_n 0), (25, .iload_n 0), (26, .iconst 4), (27, .iushr), (28, .iadd), (29, .ldc_w 267)], [(32, .iand), (33, .istore_n 0), (34, .iload_n 0), (35, .iload_n 0), (36, .bipush 8), (38, .iushr), (39, .iadd), (40, .istore_n 0), (41, .iload_n 0), (42, .iload_n 0), (43, .bipush 16), (45, .iushr), (46, .iadd), (47, .istore_n 0)], [(48, .iload_n 0), (49, .bipush 63), (51, .iand), (52, .ireturn)]]
def k274 : xK := [[(0, .iload_n 0), (1, .iload_n 1), (2, .if_icmp .lt 7), (5, .iload_n 0), (6, .goto 4), (9, .iload_n 1), (10, .ireturn)]]
def k275 : xK := [[(0, .iload_n 0), (1, .iload_n 1), (2, .if_icmp .gt 7), (5, .iload_n 0), (6, .goto 4), (9, .iload_n 1), (10, .ireturn)]]
def k276 : xK := [[(0, .new 7), (3, .dup), (4, .invokespecial 9), (7, .astore_n 1), (8, .new 10), (11, .dup), (12, .invokespecial 12), (15, .astore_n 2)], [(16, .iconst 0), (17, .istore_n 3), (18, .iload_n 3), (19, .aload_n 0), (20, .arraylength), (21, .bipush 6), (23, .isub), (24, .if_icmp .gt 1431), (27, .aload_n 0), (28, .iload_n 3), (29, .iaload), (30, .bipush 63)], [(32, .iand), (33, .tableswitch 1416 0 42 #[187, 220, 263, 296, 319, 352, 395, 428, 451, 464, 487, 500, 533, 566, 589, 612, 645, 668, 681, 704, 727, 770, 793, 826, 859, 882, 905, 938, 961, 974, 987, 1000, 1013, 1026, 1049, 1092, 1115, 1148, 1191, 1264, 1297, 1360, 1393])], [], [], [], [], [], [], [], [], [], [], [(220, .aload_n 1), (221, .aload_n 0), (222, .iload_n 3), (223, .iconst 1)], [(224, .iadd), (225, .iaload), (226, .aload_n 0), (227, .iload_n 3), (228, .iconst 2), (229, .iadd), (230, .iaload), (231, .invokevirtual 13), (234, .pop), (235, .aload_n 2), (236, .aload_n 0), (237, .iload_n 3), (238, .iconst 1), (239, .iadd)], [(240, .iaload), (241, .aload_n 0), (242, .iload_n 3), (243, .iconst 2), (244, .iadd), (245, .iaload), (246, .invokevirtual 17), (249, .pop), (250, .goto 1199), (253, .aload_n 1), (254, .aload_n 0), (255, .iload_n 3)], [(256, .iconst 1), (257, .iadd), (258, .iaload), (259, .aload_n 0), (260, .iload_n 3), (261, .iconst 2), (262, .iadd), (263, .iaload), (264, .aload_n 0), (265, .iload_n 3), (266, .iconst 3), (267, .iadd), (268, .iaload), (269, .invokevirtual 18)], [(272, .pop), (273, .aload_n 2), (274, .aload_n 0), (275, .iload_n 3), (276, .iconst 1), (277, .iadd), (278, .iaload), (279, .aload_n 0), (280, .iload_n 3), (281, .iconst 2), (282, .iadd), (283, .iaload), (284, .aload_n 0), (285, .iload_n 3), (286, .iconst 3), (287, .iadd)], [(288, .iaload), (289, .invokevirtual 22), (292, .pop), (293, .goto 1156), (296, .aload_n 1), (297, .aload_n 0), (298, .iload_n 3), (299, .iconst 1), (300, .iadd), (301, .iaload), (302, .aload_n 0), (303, .iload_n 3)], [(304, .iconst 2), (305, .iadd), (306, .iaload), (307, .invokevirtual 23), (310, .pop), (311, .aload_n 2), (312, .aload_n 0), (313, .iload_n 3), (314, .iconst 1), (315, .iadd), (316, .iaload), (317, .aload_n 0), (318, .iload_n 3), (319, .iconst 2)], [(320, .iadd), (321, .iaload), (322, .invokevirtual 26), (325, .pop), (326, .goto 1123), (329, .aload_n 1), (330, .aload_n 0), (331, .iload_n 3), (332, .iconst 1), (333, .iadd), (334, .iaload), (335, .invokevirtual 27)], [(338, .pop), (339, .aload_n 2), (340, .aload_n 0), (341, .iload_n 3), (342, .iconst 1), (343, .iadd), (344, .iaload), (345, .invokevirtual 31), (348, .pop), (349, .goto 1100)], [(352, .aload_n 1), (353, .aload_n 0), (354, .iload_n 3), (355, .iconst 1), (356, .iadd), (357, .iaload), (358, .aload_n 0), (359, .iload_n 3), (360, .iconst 2), (361, .iadd), (362, .iaload), (363, .invokevirtual 32), (366, .pop), (367, .aload_n 2)], [(368, .aload_n 0), (369, .iload_n 3), (370, .iconst 1), (371, .iadd), (372, .iaload), (373, .aload_n 0), (374, .iload_n 3), (375, .iconst 2), (376, .iadd), (377, .iaload), (378, .invokevirtual 35), (381, .pop), (382, .goto 1067)], [(385, .aload_n 1), (386, .aload_n 0), (387, .iload_n 3), (388, .iconst 1), (389, .iadd), (390, .iaload), (391, .aload_n 0), (392, .iload_n 3), (393, .iconst 2), (394, .iadd), (395, .iaload), (396, .aload_n 0), (397, .iload_n 3), (398, .iconst 3), (399, .iadd)], [(400, .iaload), (401, .invokevirtual 36), (404, .pop), (405, .aload_n 2), (406, .aload_n 0), (407, .iload_n 3), (408, .iconst 1), (409, .iadd), (410, .iaload), (411, .aload_n 0), (412, .iload_n 3), (413, .iconst 2), (414, .iadd), (415, .iaload)], [(416, .aload_n 0), (417, .iload_n 3), (418, .iconst 3), (419, .iadd), (420, .iaload), (421, .invokevirtual 39), (424, .pop), (425, .goto 1024), (428, .aload_n 1), (429, .aload_n 0), (430, .iload_n 3), (431, .iconst 1)], [(432, .iadd), (433, .iaload), (434, .aload_n 0), (435, .iload_n 3), (436, .iconst 2), (437, .iadd), (438, .iaload), (439, .invokevirtual 40), (442, .pop), (443, .aload_n 2), (444, .aload_n 0), (445, .iload_n 3), (446, .iconst 1), (447, .iadd)], [(448, .iaload), (449, .aload_n 0), (450, .iload_n 3), (451, .iconst 2), (452, .iadd), (453, .iaload), (454, .invokevirtual 43), (457, .pop), (458, .goto 991), (461, .aload_n 1), (462, .aload_n 0), (463, .iload_n 3)], [(464, .iconst 1), (465, .iadd), (466, .iaload), (467, .invokevirtual 44), (470, .pop), (471, .aload_n 2), (472, .aload_n 0), (473, .iload_n 3), (474, .iconst 1), (475, .iadd), (476, .iaload), (477, .invokevirtual 47)], [(480, .pop), (481, .goto 968), (484, .aload_n 1), (485, .invokevirtual 48), (488, .pop), (489, .aload_n 2), (490, .invokevirtual 52), (493, .pop), (494, .goto 955)], [(497, .aload_n 1), (498, .aload_n 0), (499, .iload_n 3), (500, .iconst 1), (501, .iadd), (502, .iaload), (503, .invokevirtual 53), (506, .pop), (507, .aload_n 2), (508, .aload_n 0), (509, .iload_n 3), (510, .iconst 1), (511, .iadd)], [(512, .iaload), (513, .invokevirtual 56), (516, .pop), (517, .goto 932), (520, .aload_n 1), (521, .invokevirtual 57), (524, .pop), (525, .aload_n 2), (526, .invokevirtual 60)], [(529, .pop), (530, .goto 919), (533, .aload_n 1), (534, .aload_n 0), (535, .iload_n 3), (536, .iconst 1), (537, .iadd), (538, .iaload), (539, .aload_n 0), (540, .iload_n 3), (541, .iconst 2), (542, .iadd), (543, .iaload)], [(544, .invokevirtual 61), (547, .pop), (548, .aload_n 2), (549, .aload_n 0), (550, .iload_n 3), (551, .iconst 1), (552, .iadd), (553, .iaload), (554, .aload_n 0), (555, .iload_n 3), (556, .iconst 2), (557, .iadd), (558, .iaload), (559, .invokevirtual 64)], [(562, .pop), (563, .goto 886), (566, .aload_n 1), (567, .aload_n 0), (568, .iload_n 3), (569, .iconst 1), (570, .iadd), (571, .iaload), (572, .aload_n 0), (573, .iload_n 3), (574, .iconst 2), (575, .iadd)], [(576, .iaload), (577, .invokevirtual 65), (580, .pop), (581, .aload_n 2), (582, .aload_n 0), (583, .iload_n 3), (584, .iconst 1), (585, .iadd), (586, .iaload), (587, .aload_n 0), (588, .iload_n 3), (589, .iconst 2), (590, .iadd), (591, .iaload)], [(592, .invokevirtual 68), (595, .pop), (596, .goto 853), (599, .aload_n 1), (600, .aload_n 0), (601, .iload_n 3), (602, .iconst 1), (603, .iadd), (604, .iaload), (605, .invokevirtual 69)], [(608, .pop), (609, .aload_n 2), (610, .aload_n 0), (611, .iload_n 3), (612, .iconst 1), (613, .iadd), (614, .iaload), (615, .invokevirtual 72), (618, .pop), (619, .goto 830), (622, .aload_n 1), (623, .aload_n 0)], [(624, .iload_n 3), (625, .iconst 1), (626, .iadd), (627, .iaload), (628, .invokevirtual 73), (631, .pop), (632, .aload_n 2), (633, .aload_n 0), (634, .iload_n 3), (635, .iconst 1), (636, .iadd), (637, .iaload), (638, .invokevirtual 76)], [(641, .pop), (642, .goto 807), (645, .aload_n 1), (646, .aload_n 0), (647, .iload_n 3), (648, .iconst 1), (649, .iadd), (650, .iaload), (651, .aload_n 0), (652, .iload_n 3), (653, .iconst 2), (654, .iadd), (655, .iaload)], [(656, .invokevirtual 77), (659, .pop), (660, .aload_n 2), (661, .aload_n 0), (662, .iload_n 3), (663, .iconst 1), (664, .iadd), (665, .iaload), (666, .aload_n 0), (667, .iload_n 3), (668, .iconst 2), (669, .iadd), (670, .iaload), (671, .invokevirtual 80)], [(674, .pop), (675, .goto 774), (678, .aload_n 1), (679, .aload_n 0), (680, .iload_n 3), (681, .iconst 1), (682, .iadd), (683, .iaload), (684, .invokevirtual 81), (687, .pop)], [(688, .aload_n 2), (689, .aload_n 0), (690, .iload_n 3), (691, .iconst 1), (692, .iadd), (693, .iaload), (694, .invokevirtual 84), (697, .pop), (698, .goto 751), (701, .aload_n 1), (702, .invokevirtual 85)], [(705, .pop), (706, .aload_n 2), (707, .invokevirtual 88), (710, .pop), (711, .goto 738), (714, .aload_n 1), (715, .aload_n 0), (716, .iload_n 3), (717, .iconst 1), (718, .iadd), (719, .iaload)], [(720, .invokevirtual 89), (723, .pop), (724, .aload_n 2), (725, .aload_n 0), (726, .iload_n 3), (727, .iconst 1), (728, .iadd), (729, .iaload), (730, .invokevirtual 92), (733, .pop), (734, .goto 715)], [(737, .aload_n 1), (738, .aload_n 0), (739, .iload_n 3), (740, .iconst 1), (741, .iadd), (742, .iaload), (743, .invokevirtual 93), (746, .pop), (747, .aload_n 2), (748, .aload_n 0), (749, .iload_n 3), (750, .iconst 1), (751, .iadd)], [(752, .iaload), (753, .invokevirtual 96), (756, .pop), (757, .goto 692), (760, .aload_n 1), (761, .aload_n 0), (762, .iload_n 3), (763, .iconst 1), (764, .iadd), (765, .iaload), (766, .aload_n 0), (767, .iload_n 3)], [(768, .iconst 2), (769, .iadd), (770, .iaload), (771, .aload_n 0), (772, .iload_n 3), (773, .iconst 3), (774, .iadd), (775, .iaload), (776, .invokevirtual 97), (779, .pop), (780, .aload_n 2), (781, .aload_n 0), (782, .iload_n 3), (783, .iconst 1)], [(784, .iadd), (785, .iaload), (786, .aload_n 0), (787, .iload_n 3), (788, .iconst 2), (789, .iadd), (790, .iaload), (791, .aload_n 0), (792, .iload_n 3), (793, .iconst 3), (794, .iadd), (795, .iaload), (796, .invokevirtual 100), (799, .pop)], [(800, .goto 649), (803, .aload_n 1), (804, .aload_n 0), (805, .iload_n 3), (806, .iconst 1), (807, .iadd), (808, .iaload), (809, .invokevirtual 101), (812, .pop), (813, .aload_n 2), (814, .aload_n 0), (815, .iload_n 3)], [(816, .iconst 1), (817, .iadd), (818, .iaload), (819, .invokevirtual 104), (822, .pop), (823, .goto 626), (826, .aload_n 1), (827, .aload_n 0), (828, .iload_n 3), (829, .iconst 1), (830, .iadd), (831, .iaload)], [(832, .aload_n 0), (833, .iload_n 3), (834, .iconst 2), (835, .iadd), (836, .iaload), (837, .invokevirtual 105), (840, .pop), (841, .aload_n 2), (842, .aload_n 0), (843, .iload_n 3), (844, .iconst 1), (845, .iadd), (846, .iaload), (847, .aload_n 0)], [(848, .iload_n 3), (849, .iconst 2), (850, .iadd), (851, .iaload), (852, .invokevirtual 108), (855, .pop), (856, .goto 593), (859, .aload_n 1), (860, .aload_n 0), (861, .iload_n 3), (862, .iconst 1), (863, .iadd)], [(864, .iaload), (865, .aload_n 0), (866, .iload_n 3), (867, .iconst 2), (868, .iadd), (869, .iaload), (870, .invokevirtual 109), (873, .pop), (874, .aload_n 2), (875, .aload_n 0), (876, .iload_n 3), (877, .iconst 1), (878, .iadd), (879, .iaload)], [(880, .aload_n 0), (881, .iload_n 3), (882, .iconst 2), (883, .iadd), (884, .iaload), (885, .invokevirtual 112), (888, .pop), (889, .goto 560), (892, .aload_n 1), (893, .aload_n 0), (894, .iload_n 3), (895, .iconst 1)], [(896, .iadd), (897, .iaload), (898, .invokevirtual 113), (901, .pop), (902, .aload_n 2), (903, .aload_n 0), (904, .iload_n 3), (905, .iconst 1), (906, .iadd), (907, .iaload), (908, .invokevirtual 116), (911, .pop)], [(912, .goto 537), (915, .aload_n 1), (916, .aload_n 0), (917, .iload_n 3), (918, .iconst 1), (919, .iadd), (920, .iaload), (921, .invokevirtual 117), (924, .pop), (925, .aload_n 2), (926, .aload_n 0), (927, .iload_n 3)], [(928, .iconst 1), (929, .iadd), (930, .iaload), (931, .invokevirtual 120), (934, .pop), (935, .goto 514), (938, .aload_n 1), (939, .aload_n 0), (940, .iload_n 3), (941, .iconst 1), (942, .iadd), (943, .iaload)], [(944, .aload_n 0), (945, .iload_n 3), (946, .iconst 2), (947, .iadd), (948, .iaload), (949, .invokevirtual 121), (952, .pop), (953, .aload_n 2), (954, .aload_n 0), (955, .iload_n 3), (956, .iconst 1), (957, .iadd), (958, .iaload), (959, .aload_n 0)], [(960, .iload_n 3), (961, .iconst 2), (962, .iadd), (963, .iaload), (964, .invokevirtual 124), (967, .pop), (968, .goto 481), (971, .aload_n 1), (972, .aload_n 0), (973, .iload_n 3), (974, .iconst 1), (975, .iadd)], [(976, .iaload), (977, .invokevirtual 125), (980, .pop), (981, .aload_n 2), (982, .aload_n 0), (983, .iload_n 3), (984, .iconst 1), (985, .iadd), (986, .iaload), (987, .invokevirtual 128), (990, .pop), (991, .goto 458)], [(994, .aload_n 1), (995, .invokevirtual 129), (998, .pop), (999, .aload_n 2), (1000, .invokevirtual 132), (1003, .pop), (1004, .goto 445), (1007, .aload_n 1)], [(1008, .invokevirtual 133), (1011, .pop), (1012, .aload_n 2), (1013, .invokevirtual 136), (1016, .pop), (1017, .goto 432), (1020, .aload_n 1), (1021, .invokevirtual 137)], [(1024, .pop), (1025, .aload_n 2), (1026, .invokevirtual 140), (1029, .pop), (1030, .goto 419), (1033, .aload_n 1), (1034, .invokevirtual 141), (1037, .pop), (1038, .aload_n 2), (1039, .invokevirtual 144)], [(1042, .pop), (1043, .goto 406), (1046, .aload_n 1), (1047, .invokevirtual 145), (1050, .pop), (1051, .aload_n 2), (1052, .invokevirtual 148), (1055, .pop)], [(1056, .goto 393), (1059, .aload_n 1), (1060, .aload_n 0), (1061, .iload_n 3), (1062, .iconst 1), (1063, .iadd), (1064, .iaload), (1065, .invokevirtual 149), (1068, .pop), (1069, .aload_n 2), (1070, .aload_n 0), (1071, .iload_n 3)], [(1072, .iconst 1), (1073, .iadd), (1074, .iaload), (1075, .invokevirtual 152), (1078, .pop), (1079, .goto 370), (1082, .aload_n 1), (1083, .aload_n 0), (1084, .iload_n 3), (1085, .iconst 1), (1086, .iadd), (1087, .iaload)], [(1088, .aload_n 0), (1089, .iload_n 3), (1090, .iconst 2), (1091, .iadd), (1092, .iaload), (1093, .aload_n 0), (1094, .iload_n 3), (1095, .iconst 3), (1096, .iadd), (1097, .iaload), (1098, .invokevirtual 153), (1101, .pop), (1102, .aload_n 2), (1103, .aload_n 0)], [(1104, .iload_n 3), (1105, .iconst 1), (1106, .iadd), (1107, .iaload), (1108, .aload_n 0), (1109, .iload_n 3), (1110, .iconst 2), (1111, .iadd), (1112, .iaload), (1113, .aload_n 0), (1114, .iload_n 3), (1115, .iconst 3), (1116, .iadd), (1117, .iaload), (1118, .invokevirtual 156)], [(1121, .pop), (1122, .goto 327), (1125, .aload_n 1), (1126, .aload_n 0), (1127, .iload_n 3), (1128, .iconst 1), (1129, .iadd), (1130, .iaload), (1131, .invokevirtual 157), (1134, .pop), (1135, .aload_n 2)], [(1136, .aload_n 0), (1137, .iload_n 3), (1138, .iconst 1), (1139, .iadd), (1140, .iaload), (1141, .invokevirtual 160), (1144, .pop), (1145, .goto 304), (1148, .aload_n 1), (1149, .aload_n 0), (1150, .iload_n 3), (1151, .iconst 1)], [(1152, .iadd), (1153, .iaload), (1154, .aload_n 0), (1155, .iload_n 3), (1156, .iconst 2), (1157, .iadd), (1158, .iaload), (1159, .invokevirtual 161), (1162, .aload_n 2), (1163, .aload_n 0), (1164, .iload_n 3), (1165, .iconst 1), (1166, .iadd), (1167, .iaload)], [(1168, .aload_n 0), (1169, .iload_n 3), (1170, .iconst 2), (1171, .iadd), (1172, .iaload), (1173, .invokevirtual 164), (1176, .if_icmp .eq 273), (1179, .iconst 0), (1180, .ireturn), (1181, .aload_n 1), (1182, .aload_n 0), (1183, .iload_n 3)], [(1184, .iconst 1), (1185, .iadd), (1186, .iaload), (1187, .aload_n 0), (1188, .iload_n 3), (1189, .iconst 2), (1190, .iadd), (1191, .iaload), (1192, .aload_n 0), (1193, .iload_n 3), (1194, .iconst 3), (1195, .iadd), (1196, .iaload), (1197, .invokevirtual 165)], [(1200, .pop), (1201, .aload_n 2), (1202, .aload_n 0), (1203, .iload_n 3), (1204, .iconst 1), (1205, .iadd), (1206, .iaload), (1207, .aload_n 0), (1208, .iload_n 3), (1209, .iconst 2), (1210, .iadd), (1211, .iaload), (1212, .aload_n 0), (1213, .iload_n 3), (1214, .iconst 3), (1215, .iadd)], [(1216, .iaload), (1217, .invokevirtual 168), (1220, .pop), (1221, .goto 228), (1224, .aload_n 1), (1225, .aload_n 0), (1226, .iload_n 3), (1227, .iconst 1), (1228, .iadd), (1229, .iaload), (1230, .aload_n 0), (1231, .iload_n 3)], [(1232, .iconst 2), (1233, .iadd), (1234, .iaload), (1235, .aload_n 0), (1236, .iload_n 3), (1237, .iconst 3), (1238, .iadd), (1239, .iaload), (1240, .i2l), (1241, .bipush 32), (1243, .lshl), (1244, .aload_n 0), (1245, .iload_n 3), (1246, .iconst 4), (1247, .iadd)], [(1248, .iaload), (1249, .i2l), (1250, .ldc2_w 169), (1253, .land), (1254, .lor), (1255, .invokevirtual 171), (1258, .pop), (1259, .aload_n 2), (1260, .aload_n 0), (1261, .iload_n 3), (1262, .iconst 1), (1263, .iadd)], [(1264, .iaload), (1265, .aload_n 0), (1266, .iload_n 3), (1267, .iconst 2), (1268, .iadd), (1269, .iaload), (1270, .aload_n 0), (1271, .iload_n 3), (1272, .iconst 3), (1273, .iadd), (1274, .iaload), (1275, .i2l), (1276, .bipush 32), (1278, .lshl), (1279, .aload_n 0)], [(1280, .iload_n 3), (1281, .iconst 4), (1282, .iadd), (1283, .iaload), (1284, .i2l), (1285, .ldc2_w 169), (1288, .land), (1289, .lor), (1290, .invokevirtual 175), (1293, .pop), (1294, .goto 155)], [(1297, .aload_n 1), (1298, .aload_n 0), (1299, .iload_n 3), (1300, .iconst 1), (1301, .iadd), (1302, .iaload), (1303, .aload_n 0), (1304, .iload_n 3), (1305, .iconst 2), (1306, .iadd), (1307, .iaload), (1308, .invokevirtual 176), (1311, .pop2)], [(1312, .aload_n 2), (1313, .aload_n 0), (1314, .iload_n 3), (1315, .iconst 1), (1316, .iadd), (1317, .iaload), (1318, .aload_n 0), (1319, .iload_n 3), (1320, .iconst 2), (1321, .iadd), (1322, .iaload), (1323, .invokevirtual 180), (1326, .pop2), (1327, .goto 122)], [(1330, .aload_n 1), (1331, .aload_n 0), (1332, .iload_n 3), (1333, .iconst 1), (1334, .iadd), (1335, .iaload), (1336, .aload_n 0), (1337, .iload_n 3), (1338, .iconst 2), (1339, .iadd), (1340, .iaload), (1341, .aload_n 0), (1342, .iload_n 3), (1343, .iconst 3)], [(1344, .iadd), (1345, .iaload), (1346, .aload_n 0), (1347, .iload_n 3), (1348, .iconst 4), (1349, .iadd), (1350, .iaload), (1351, .aload_n 0), (1352, .iload_n 3), (1353, .iconst 5), (1354, .iadd), (1355, .iaload), (1356, .invokevirtual 181), (1359, .pop)], [(1360, .aload_n 2), (1361, .aload_n 0), (1362, .iload_n 3), (1363, .iconst 1), (1364, .iadd), (1365, .iaload), (1366, .aload_n 0), (1367, .iload_n 3), (1368, .iconst 2), (1369, .iadd), (1370, .iaload), (1371, .aload_n 0), (1372, .iload_n 3), (1373, .iconst 3), (1374, .iadd), (1375, .iaload)], [(1376, .aload_n 0), (1377, .iload_n 3), (1378, .iconst 4), (1379, .iadd), (1380, .iaload), (1381, .aload_n 0), (1382, .iload_n 3), (1383, .iconst 5), (1384, .iadd), (1385, .iaload), (1386, .invokevirtual 185), (1389, .pop), (1390, .goto 59)], [(1393, .aload_n 1), (1394, .aload_n 0), (1395, .iload_n 3), (1396, .iconst 1), (1397, .iadd), (1398, .iaload), (1399, .aload_n 0), (1400, .iload_n 3), (1401, .iconst 2), (1402, .iadd), (1403, .iaload), (1404, .invokevirtual 186), (1407, .pop)], [(1408, .aload_n 2), (1409, .aload_n 0), (1410, .iload_n 3), (1411, .iconst 1), (1412, .iadd), (1413, .iaload), (1414, .aload_n 0), (1415, .iload_n 3), (1416, .iconst 2), (1417, .iadd), (1418, .iaload), (1419, .invokevirtual 189), (1422, .pop), (1423, .goto 26)], [(1426, .aload_n 1), (1427, .aload_n 0), (1428, .iload_n 3), (1429, .iconst 1), (1430, .iadd), (1431, .iaload), (1432, .invokevirtual 190), (1435, .pop), (1436, .aload_n 2), (1437, .aload_n 0), (1438, .iload_n 3), (1439, .iconst 1)], [(1440, .iadd), (1441, .iaload), (1442, .invokevirtual 193), (1445, .pop), (1446, .goto 3), (1449, .iinc 3 6), (1452, .goto (-1434)), (1455, .iconst 1)], [(1456, .ireturn)]]
/-- number of the owner, locals, kind (0 static, 1 of an object, 2 makes one), answer (0 none, 1 int, 2 boolean, 3 long), code -/
abbrev xQ : Type := Nat × Nat × Nat × Nat × xK
def xM : List xQ := [(0, 2, 2, 0, k0), (0, 5, 1, 0, k1), (0, 2, 1, 0, k2), (0, 1, 1, 1, k3), (0, 1, 1, 1, k4), (1, 2, 2, 0, k5), (1, 2, 1, 2, k6), (1, 2, 1, 2, k7), (1, 1, 1, 1, k8), (1, 3, 1, 1, k9), (1, 5, 1, 1, k10), (1, 3, 1, 1, k11), (1, 4, 1, 1, k12), (1, 3, 1, 1, k13), (1, 2, 1, 1, k14), (1, 3, 1, 2, k15), (1, 2, 1, 1, k16), (1, 3, 1, 1, k17), (1, 4, 1, 1, k18), (1, 2, 0, 1, k19), (1, 3, 1, 1, k20), (1, 4, 1, 0, k21), (1, 2, 1, 1, k22), (2, 3, 2, 0, k23), (2, 1, 1, 0, k24), (2, 4, 1, 0, k25), (2, 8, 1, 1, k26), (2, 3, 1, 0, k27), (2, 5, 1, 1, k28), (2, 5, 0, 1, k29), (2, 3, 1, 1, k30), (2, 4, 1, 1, k31), (2, 2, 1, 0, k32), (2, 5, 1, 1, k33), (2, 1, 1, 0, k34), (2, 5, 1, 0, k35), (2, 6, 1, 0, k36), (2, 5, 1, 1, k37), (2, 3, 1, 0, k38), (3, 1, 2, 0, k39), (3, 3, 1, 0, k40), (3, 3, 1, 0, k41), (3, 2, 1, 0, k42), (3, 10, 1, 2, k43), (3, 4, 1, 0, k44), (3, 3, 0, 1, k45), (3, 2, 1, 0, k46), (3, 1, 1, 1, k47), (4, 3, 2, 0, k48), (4, 6, 1, 2, k49), (4, 6, 1, 2, k50), (4, 1, 0, 1, k51), (4, 3, 1, 0, k52), (4, 5, 1, 1, k53), (4, 3, 1, 1, k54), (4, 3, 1, 2, k55), (4, 4, 1, 1, k56), (5, 2, 2, 0, k57), (5, 3, 1, 0, k58), (5, 2, 1, 2, k59), (5, 4, 1, 1, k60), (5, 6, 1, 1, k61), (5, 3, 1, 1, k62), (5, 5, 1, 1, k63), (5, 5, 1, 1, k64), (6, 1, 2, 0, k65), (6, 2, 1, 2, k66), (6, 2, 1, 2, k67), (6, 2, 1, 2, k68), (6, 3, 1, 2, k69), (6, 2, 1, 1, k70), (6, 2, 1, 1, k71), (6, 3, 1, 1, k72), (6, 5, 1, 1, k73), (6, 3, 1, 1, k74), (6, 3, 1, 3, k75), (6, 5, 1, 0, k76), (6, 3, 0, 3, k77), (6, 6, 1, 1, k78), (6, 4, 1, 2, k79), (7, 4, 2, 0, k80), (7, 3, 1, 1, k81), (7, 6, 1, 1, k82), (7, 4, 1, 1, k83), (7, 5, 1, 2, k84), (7, 4, 1, 0, k85), (7, 4, 1, 0, k86), (7, 4, 1, 1, k87), (7, 4, 1, 2, k88), (7, 4, 1, 1, k89), (7, 4, 1, 1, k90), (8, 1, 2, 0, k91), (8, 2, 1, 1, k92), (8, 3, 1, 2, k93), (8, 1, 1, 1, k94), (8, 2, 1, 2, k95), (8, 2, 1, 2, k96), (8, 3, 1, 2, k97), (8, 3, 1, 2, k98), (8, 3, 1, 2, k99), (8, 4, 1, 2, k100), (8, 4, 1, 2, k101), (8, 4, 1, 2, k102), (8, 3, 1, 2, k103), (8, 3, 1, 2, k104), (8, 1, 0, 2, k105), (8, 1, 0, 1, k106), (9, 1, 2, 0, k107), (9, 1, 0, 2, k108), (9, 4, 0, 2, k109), (9, 2, 1, 2, k110), (9, 2, 1, 1, k111), (9, 1, 1, 1, k112), (9, 4, 1, 1, k113), (9, 4, 1, 1, k114), (9, 7, 1, 1, k115), (9, 7, 1, 1, k116), (10, 3, 2, 0, k117), (10, 3, 1, 2, k118), (10, 6, 1, 0, k119), (10, 4, 1, 0, k120), (10, 4, 1, 0, k121), (10, 5, 1, 2, k122), (10, 4, 1, 1, k123), (11, 1, 2, 0, k124), (11, 3, 1, 1, k125), (11, 4, 1, 1, k126), (11, 11, 1, 1, k127), (11, 5, 1, 1, k128), (11, 2, 1, 1, k129), (11, 4, 1, 1, k130), (11, 5, 1, 1, k131), (11, 4, 1, 2, k132), (11, 3, 1, 1, k133), (11, 3, 1, 1, k134), (11, 3, 1, 1, k135), (11, 2, 1, 1, k136), (11, 3, 1, 1, k137), (11, 2, 1, 1, k138), (11, 1, 1, 1, k139), (11, 3, 1, 1, k140), (11, 3, 1, 1, k141), (11, 2, 1, 1, k142), (11, 2, 1, 1, k143), (11, 3, 1, 1, k144), (11, 2, 1, 1, k145), (11, 1, 1, 1, k146), (11, 3, 1, 1, k147), (11, 2, 1, 1, k148), (11, 6, 1, 1, k149), (11, 3, 1, 1, k150), (11, 3, 1, 1, k151), (11, 3, 1, 1, k152), (11, 2, 1, 1, k153), (11, 2, 1, 1, k154), (11, 4, 1, 1, k155), (11, 2, 1, 1, k156), (11, 1, 1, 1, k157), (11, 1, 1, 1, k158), (11, 1, 1, 1, k159), (11, 1, 1, 1, k160), (11, 1, 1, 1, k161), (11, 2, 1, 1, k162), (11, 4, 1, 1, k163), (11, 2, 1, 1, k164), (11, 3, 1, 1, k165), (11, 4, 1, 1, k166), (11, 6, 1, 1, k167), (11, 3, 1, 3, k168), (11, 6, 1, 1, k169), (11, 5, 1, 1, k170), (11, 2, 1, 1, k171), (11, 2, 0, 2, k172), (11, 1, 0, 2, k173), (12, 6, 0, 2, k174), (12, 3, 0, 1, k175), (12, 2, 0, 2, k176), (12, 2, 2, 0, k177), (12, 5, 1, 1, k178), (12, 1, 1, 1, k179), (12, 1, 1, 1, k180), (12, 2, 1, 2, k181), (12, 2, 1, 2, k182), (12, 2, 0, 2, k183), (12, 3, 1, 0, k184), (12, 3, 1, 1, k185), (12, 7, 1, 1, k186), (12, 3, 1, 1, k187), (12, 3, 1, 1, k188), (12, 4, 1, 1, k189), (12, 4, 1, 1, k190), (12, 2, 0, 1, k191), (12, 2, 1, 1, k192), (12, 4, 1, 1, k193), (12, 3, 1, 1, k194), (12, 3, 1, 1, k195), (12, 2, 1, 1, k196), (12, 1, 1, 1, k197), (12, 1, 1, 1, k198), (12, 2, 1, 2, k199), (12, 3, 1, 1, k200), (12, 3, 1, 1, k201), (12, 4, 1, 1, k202), (12, 4, 1, 1, k203), (12, 4, 1, 1, k204), (12, 1, 0, 1, k205), (12, 5, 1, 1, k206), (12, 8, 1, 1, k207), (12, 4, 1, 1, k208), (12, 6, 1, 2, k209), (12, 1, 0, 1, k210), (12, 3, 1, 2, k211), (12, 2, 1, 1, k212), (12, 3, 1, 0, k213), (12, 5, 1, 2, k214), (12, 8, 1, 1, k215), (12, 6, 1, 0, k216), (12, 3, 1, 0, k217), (12, 2, 1, 1, k218), (12, 3, 1, 1, k219), (12, 3, 1, 1, k220), (12, 3, 1, 1, k221), (12, 3, 1, 1, k222), (12, 5, 1, 0, k223), (12, 2, 1, 1, k224), (12, 5, 1, 1, k225), (12, 3, 1, 1, k226), (12, 4, 0, 1, k227), (12, 3, 1, 2, k228), (12, 6, 1, 0, k229), (12, 6, 1, 2, k230), (12, 3, 1, 1, k231), (12, 3, 1, 1, k232), (12, 3, 1, 2, k233), (12, 4, 1, 1, k234), (12, 5, 1, 1, k235), (12, 5, 1, 1, k236), (12, 6, 1, 1, k237), (12, 8, 1, 1, k238), (12, 3, 1, 1, k239), (12, 6, 1, 2, k240), (12, 3, 1, 2, k241), (12, 5, 1, 1, k242), (12, 4, 1, 2, k243), (12, 4, 1, 1, k244), (12, 2, 1, 1, k245), (12, 6, 1, 1, k246), (12, 8, 1, 1, k247), (12, 2, 1, 1, k248), (12, 2, 1, 1, k249), (12, 2, 1, 1, k250), (12, 3, 1, 1, k251), (12, 2, 1, 2, k252), (12, 2, 1, 1, k253), (12, 2, 1, 1, k254), (12, 1, 0, 1, k255), (12, 2, 1, 0, k256), (12, 3, 1, 1, k257), (12, 4, 1, 1, k258), (12, 4, 1, 1, k259), (12, 4, 1, 1, k260), (12, 4, 1, 1, k261), (12, 2, 1, 1, k262), (12, 1, 0, 2, k263), (12, 3, 1, 1, k264), (12, 5, 1, 1, k265), (12, 3, 1, 1, k266), (12, 3, 0, 3, k267), (12, 6, 1, 1, k268), (12, 3, 1, 3, k269), (12, 7, 1, 1, k270), (12, 4, 1, 1, k271), (12, 2, 1, 1, k272), (13, 1, 0, 1, k273), (14, 2, 0, 1, k274), (14, 2, 0, 1, k275), (15, 4, 0, 2, k276)]
def xMx : Nat := 274
def xMn : Nat := 275
def xLw : Nat := 276
/-- methods below this one are walked -/
def xOw : Nat := 274
/-- name, bytes, answer; places of the words: code, initialized, the sort, selects -/
def xN : List (MethodName × ByteArray × Option FieldType × Nat × Nat × Nat × Nat) := [
  (⟨"TwoAlike$Changes", "<init>", "(LTwoAlike$Crowd;)V"⟩, prog_2_method_1_code, none, 379, 96, 378, 0),
  (⟨"TwoAlike$Changes", "make", "(IIII)V"⟩, prog_2_method_2_code, none, 584, 96, 582, 583),
  (⟨"TwoAlike$Changes", "forgetFirst", "()V"⟩, prog_2_method_3_code, none, 588, 96, 587, 2),
  (⟨"TwoAlike$Changes", "takeBack", "()I"⟩, prog_2_method_4_code, (some .int), 1043, 96, 1041, 1042),
  (⟨"TwoAlike$Changes", "makeAgain", "()I"⟩, prog_2_method_5_code, (some .int), 1051, 96, 1049, 1050),
  (⟨"TwoAlike$Crowd", "<init>", "(LTwoAlike$Scene;)V"⟩, prog_3_method_1_code, none, 151, 89, 150, 0),
  (⟨"TwoAlike$Crowd", "has", "(I)Z"⟩, prog_3_method_2_code, (some .boolean), 543, 89, 541, 542),
  (⟨"TwoAlike$Crowd", "hasTwo", "(I)Z"⟩, prog_3_method_3_code, (some .boolean), 705, 89, 703, 704),
  (⟨"TwoAlike$Crowd", "everybody", "()I"⟩, prog_3_method_4_code, (some .int), 899, 89, 897, 898),
  (⟨"TwoAlike$Crowd", "come", "(II)I"⟩, prog_3_method_5_code, (some .int), 507, 89, 505, 506),
  (⟨"TwoAlike$Crowd", "addErrand", "(III)I"⟩, prog_3_method_6_code, (some .int), 547, 89, 545, 546),
  (⟨"TwoAlike$Crowd", "dropErrands", "(I)I"⟩, prog_3_method_7_code, (some .int), 555, 89, 553, 554),
  (⟨"TwoAlike$Crowd", "minutesOf", "(I)I"⟩, prog_3_method_8_code, (some .int), 611, 89, 609, 610),
  (⟨"TwoAlike$Crowd", "errandsOfAll", "()I"⟩, prog_3_method_9_code, (some .int), 1176, 89, 1174, 1175),
  (⟨"TwoAlike$Crowd", "hatOf", "(I)I"⟩, prog_3_method_10_code, (some .int), 568, 89, 566, 567),
  (⟨"TwoAlike$Crowd", "mayWear", "(II)Z"⟩, prog_3_method_11_code, (some .boolean), 563, 89, 561, 562),
  (⟨"TwoAlike$Crowd", "seen", "(I)I"⟩, prog_3_method_12_code, (some .int), 604, 89, 602, 603),
  (⟨"TwoAlike$Crowd", "seenWith", "(II)I"⟩, prog_3_method_13_code, (some .int), 862, 89, 860, 861),
  (⟨"TwoAlike$Crowd", "seenAfter", "(II)I"⟩, prog_3_method_14_code, (some .int), 718, 89, 716, 717),
  (⟨"TwoAlike$Crowd", "withHat", "(II)I"⟩, prog_3_method_15_code, (some .int), 607, 89, 606, 0),
  (⟨"TwoAlike$Crowd", "told", "(II)I"⟩, prog_3_method_16_code, (some .int), 580, 89, 578, 579),
  (⟨"TwoAlike$Crowd", "tell", "(III)V"⟩, prog_3_method_17_code, none, 592, 89, 590, 591),
  (⟨"TwoAlike$Crowd", "turnMonth", "()I"⟩, prog_3_method_18_code, (some .int), 1023, 89, 1021, 1022),
  (⟨"TwoAlike$Day", "<init>", "(LTwoAlike$Crowd;LTwoAlike$Likeness;)V"⟩, prog_4_method_1_code, none, 270, 93, 269, 0),
  (⟨"TwoAlike$Day", "layByNumbers", "()V"⟩, prog_4_method_2_code, none, 757, 93, 755, 756),
  (⟨"TwoAlike$Day", "layWithout", "(I)V"⟩, prog_4_method_3_code, none, 766, 93, 765, 19),
  (⟨"TwoAlike$Day", "takeTurn", "(II)I"⟩, prog_4_method_4_code, (some .int), 770, 93, 769, 20),
  (⟨"TwoAlike$Day", "stayAtHome", "(I)V"⟩, prog_4_method_5_code, none, 774, 93, 773, 21),
  (⟨"TwoAlike$Day", "shutMinutes", "(II)I"⟩, prog_4_method_6_code, (some .int), 778, 93, 777, 22),
  (⟨"TwoAlike$Day", "firstFree", "(III)I"⟩, prog_4_method_7_code, (some .int), 781, 93, 780, 0),
  (⟨"TwoAlike$Day", "waitedByAll", "()I"⟩, prog_4_method_8_code, (some .int), 790, 93, 788, 789),
  (⟨"TwoAlike$Day", "streetOf", "(II)I"⟩, prog_4_method_9_code, (some .int), 801, 93, 799, 800),
  (⟨"TwoAlike$Day", "remember", "()V"⟩, prog_4_method_10_code, none, 786, 93, 784, 785),
  (⟨"TwoAlike$Day", "whoBars", "(I)I"⟩, prog_4_method_11_code, (some .int), 837, 93, 835, 836),
  (⟨"TwoAlike$Day", "findBestOrder", "()V"⟩, prog_4_method_12_code, none, 813, 93, 811, 812),
  (⟨"TwoAlike$Day", "orderFrom", "(III)V"⟩, prog_4_method_13_code, none, 817, 93, 816, 23),
  (⟨"TwoAlike$Day", "orderWith", "(IIII)V"⟩, prog_4_method_14_code, none, 829, 93, 828, 26),
  (⟨"TwoAlike$Day", "leastToCome", "(II)I"⟩, prog_4_method_15_code, (some .int), 825, 93, 824, 25),
  (⟨"TwoAlike$Day", "keepOrder", "(I)V"⟩, prog_4_method_16_code, none, 821, 93, 820, 24),
  (⟨"TwoAlike$Law", "<init>", "()V"⟩, prog_5_method_1_code, none, 202, 90, 201, 0),
  (⟨"TwoAlike$Law", "copy", "(LTwoAlike$Law;)V"⟩, prog_5_method_2_code, none, 697, 90, 695, 696),
  (⟨"TwoAlike$Law", "add", "(II)V"⟩, prog_5_method_3_code, none, 678, 90, 676, 677),
  (⟨"TwoAlike$Law", "endSkip", "(I)V"⟩, prog_5_method_4_code, none, 693, 90, 691, 692),
  (⟨"TwoAlike$Law", "holds", "(IIIII)Z"⟩, prog_5_method_5_code, (some .boolean), 722, 90, 720, 721),
  (⟨"TwoAlike$Law", "run", "(II)V"⟩, prog_5_method_6_code, none, 742, 90, 741, 17),
  (⟨"TwoAlike$Law", "joined", "(III)I"⟩, prog_5_method_7_code, (some .int), 749, 90, 748, 0),
  (⟨"TwoAlike$Law", "push", "(I)V"⟩, prog_5_method_8_code, none, 746, 90, 745, 18),
  (⟨"TwoAlike$Law", "pop", "()I"⟩, prog_5_method_9_code, (some .int), 738, 90, 737, 16),
  (⟨"TwoAlike$Likeness", "<init>", "(LTwoAlike$Crowd;LTwoAlike$Law;)V"⟩, prog_6_method_1_code, none, 252, 92, 251, 0),
  (⟨"TwoAlike$Likeness", "isAfter", "(III)Z"⟩, prog_6_method_2_code, (some .boolean), 710, 92, 708, 709),
  (⟨"TwoAlike$Likeness", "isWith", "(IIII)Z"⟩, prog_6_method_3_code, (some .boolean), 858, 92, 856, 857),
  (⟨"TwoAlike$Likeness", "worn", "(I)I"⟩, prog_6_method_4_code, (some .int), 714, 92, 713, 0),
  (⟨"TwoAlike$Likeness", "lookAround", "()V"⟩, prog_6_method_5_code, none, 761, 92, 759, 760),
  (⟨"TwoAlike$Likeness", "pairsAfter", "(I)I"⟩, prog_6_method_6_code, (some .int), 886, 92, 884, 885),
  (⟨"TwoAlike$Likeness", "greatestKind", "()I"⟩, prog_6_method_7_code, (some .int), 894, 92, 892, 893),
  (⟨"TwoAlike$Likeness", "isKind", "(I)Z"⟩, prog_6_method_8_code, (some .boolean), 904, 92, 903, 32),
  (⟨"TwoAlike$Likeness", "hatToPass", "(II)I"⟩, prog_6_method_9_code, (some .int), 913, 92, 911, 912),
  (⟨"TwoAlike$Scene", "<init>", "()V"⟩, prog_7_method_1_code, none, 115, 88, 114, 0),
  (⟨"TwoAlike$Scene", "copy", "(LTwoAlike$Scene;)V"⟩, prog_7_method_2_code, none, 1031, 88, 1029, 1030),
  (⟨"TwoAlike$Scene", "hasSight", "(I)Z"⟩, prog_7_method_3_code, (some .boolean), 615, 88, 613, 614),
  (⟨"TwoAlike$Scene", "addSight", "(III)I"⟩, prog_7_method_4_code, (some .int), 961, 88, 959, 960),
  (⟨"TwoAlike$Scene", "tellDay", "(IIII)I"⟩, prog_7_method_5_code, (some .int), 923, 88, 921, 922),
  (⟨"TwoAlike$Scene", "toldStreet", "(II)I"⟩, prog_7_method_6_code, (some .int), 940, 88, 938, 939),
  (⟨"TwoAlike$Scene", "firstApart", "(II)I"⟩, prog_7_method_7_code, (some .int), 948, 88, 946, 947),
  (⟨"TwoAlike$Scene", "minutesApart", "(II)I"⟩, prog_7_method_8_code, (some .int), 953, 88, 951, 952),
  (⟨"TwoAlike$Shelves", "<init>", "()V"⟩, prog_8_method_1_code, none, 434, 98, 433, 0),
  (⟨"TwoAlike$Shelves", "isShelf", "(I)Z"⟩, prog_8_method_2_code, (some .boolean), 515, 98, 513, 514),
  (⟨"TwoAlike$Shelves", "isSort", "(I)Z"⟩, prog_8_method_3_code, (some .boolean), 1116, 98, 1114, 1115),
  (⟨"TwoAlike$Shelves", "isBare", "(I)Z"⟩, prog_8_method_4_code, (some .boolean), 519, 98, 517, 518),
  (⟨"TwoAlike$Shelves", "isRowOf", "(II)Z"⟩, prog_8_method_5_code, (some .boolean), 523, 98, 521, 522),
  (⟨"TwoAlike$Shelves", "sizeOf", "(I)I"⟩, prog_8_method_6_code, (some .int), 531, 98, 529, 530),
  (⟨"TwoAlike$Shelves", "twinOn", "(I)I"⟩, prog_8_method_7_code, (some .int), 1165, 98, 1163, 1164),
  (⟨"TwoAlike$Shelves", "holdTwin", "(II)I"⟩, prog_8_method_8_code, (some .int), 1108, 98, 1106, 1107),
  (⟨"TwoAlike$Shelves", "holdRow", "(III)I"⟩, prog_8_method_9_code, (some .int), 1120, 98, 1118, 1119),
  (⟨"TwoAlike$Shelves", "refusal", "(II)I"⟩, prog_8_method_10_code, (some .int), 1128, 98, 1126, 1127),
  (⟨"TwoAlike$Shelves", "read", "(II)J"⟩, prog_8_method_11_code, (some .long), 535, 98, 533, 534),
  (⟨"TwoAlike$Shelves", "write", "(IIJ)V"⟩, prog_8_method_12_code, none, 1133, 98, 1131, 1132),
  (⟨"TwoAlike$Shelves", "lowestBits", "(IJ)J"⟩, prog_8_method_13_code, (some .long), 1136, 98, 1135, 0),
  (⟨"TwoAlike$Shelves", "move", "(IIIII)I"⟩, prog_8_method_14_code, (some .int), 1149, 98, 1147, 1148),
  (⟨"TwoAlike$Shelves", "reaches", "(III)Z"⟩, prog_8_method_15_code, (some .boolean), 1154, 98, 1153, 41),
  (⟨"TwoAlike$Sightings", "<init>", "(LTwoAlike$Scene;LTwoAlike$Crowd;LTwoAlike$Likeness;)V"⟩, prog_9_method_1_code, none, 354, 95, 353, 0),
  (⟨"TwoAlike$Sightings", "firstMeeting", "()I"⟩, prog_9_method_2_code, (some .int), 931, 95, 929, 930),
  (⟨"TwoAlike$Sightings", "firstTwoIn", "(I)I"⟩, prog_9_method_3_code, (some .int), 936, 95, 935, 33),
  (⟨"TwoAlike$Sightings", "fewestPeople", "(I)I"⟩, prog_9_method_4_code, (some .int), 969, 95, 967, 968),
  (⟨"TwoAlike$Sightings", "bar", "(III)Z"⟩, prog_9_method_5_code, (some .boolean), 973, 95, 972, 34),
  (⟨"TwoAlike$Sightings", "shareOutFrom", "(II)V"⟩, prog_9_method_6_code, none, 978, 95, 977, 35),
  (⟨"TwoAlike$Sightings", "shareInto", "(III)V"⟩, prog_9_method_7_code, none, 982, 95, 981, 36),
  (⟨"TwoAlike$Sightings", "whoCanBe", "(I)I"⟩, prog_9_method_8_code, (some .int), 990, 95, 988, 989),
  (⟨"TwoAlike$Sightings", "canLook", "(II)Z"⟩, prog_9_method_9_code, (some .boolean), 994, 95, 993, 37),
  (⟨"TwoAlike$Sightings", "goneFrom", "(I)I"⟩, prog_9_method_10_code, (some .int), 1005, 95, 1003, 1004),
  (⟨"TwoAlike$Sightings", "livedOn", "(I)I"⟩, prog_9_method_11_code, (some .int), 1011, 95, 1009, 1010),
  (⟨"TwoAlike$Tape", "<init>", "()V"⟩, prog_10_method_1_code, none, 228, 91, 227, 0),
  (⟨"TwoAlike$Tape", "take", "(I)I"⟩, prog_10_method_2_code, (some .int), 627, 91, 625, 626),
  (⟨"TwoAlike$Tape", "isText", "()Z"⟩, prog_10_method_3_code, (some .boolean), 635, 91, 633, 634),
  (⟨"TwoAlike$Tape", "next", "()I"⟩, prog_10_method_4_code, (some .int), 667, 91, 666, 12),
  (⟨"TwoAlike$Tape", "passOver", "(I)Z"⟩, prog_10_method_5_code, (some .boolean), 689, 91, 688, 15),
  (⟨"TwoAlike$Tape", "readLine", "()Z"⟩, prog_10_method_6_code, (some .boolean), 639, 91, 638, 5),
  (⟨"TwoAlike$Tape", "readEither", "(I)Z"⟩, prog_10_method_7_code, (some .boolean), 643, 91, 642, 6),
  (⟨"TwoAlike$Tape", "readBoth", "(I)Z"⟩, prog_10_method_8_code, (some .boolean), 647, 91, 646, 7),
  (⟨"TwoAlike$Tape", "readComparison", "(I)Z"⟩, prog_10_method_9_code, (some .boolean), 651, 91, 650, 8),
  (⟨"TwoAlike$Tape", "readSum", "(I)Z"⟩, prog_10_method_10_code, (some .boolean), 655, 91, 654, 9),
  (⟨"TwoAlike$Tape", "readProduct", "(I)Z"⟩, prog_10_method_11_code, (some .boolean), 659, 91, 658, 10),
  (⟨"TwoAlike$Tape", "readOperand", "(I)Z"⟩, prog_10_method_12_code, (some .boolean), 663, 91, 662, 11),
  (⟨"TwoAlike$Tape", "readOpened", "(II)Z"⟩, prog_10_method_13_code, (some .boolean), 685, 91, 684, 14),
  (⟨"TwoAlike$Tape", "readNumber", "()Z"⟩, prog_10_method_14_code, (some .boolean), 674, 91, 673, 13),
  (⟨"TwoAlike$Tape", "isDigit", "(I)Z"⟩, prog_10_method_15_code, (some .boolean), 670, 91, 669, 0),
  (⟨"TwoAlike$Tape", "nameOf", "(I)I"⟩, prog_10_method_16_code, (some .int), 681, 91, 680, 0),
  (⟨"TwoAlike$Twins", "<init>", "()V"⟩, prog_11_method_1_code, none, 408, 97, 407, 0),
  (⟨"TwoAlike$Twins", "isKind", "(I)Z"⟩, prog_11_method_2_code, (some .boolean), 1058, 97, 1057, 0),
  (⟨"TwoAlike$Twins", "isUnder", "(II)Z"⟩, prog_11_method_3_code, (some .boolean), 1168, 97, 1167, 0),
  (⟨"TwoAlike$Twins", "has", "(I)Z"⟩, prog_11_method_4_code, (some .boolean), 1074, 97, 1072, 1073),
  (⟨"TwoAlike$Twins", "add", "(I)I"⟩, prog_11_method_5_code, (some .int), 1062, 97, 1060, 1061),
  (⟨"TwoAlike$Twins", "traced", "()I"⟩, prog_11_method_6_code, (some .int), 1098, 97, 1096, 1097),
  (⟨"TwoAlike$Twins", "begin", "(III)I"⟩, prog_11_method_7_code, (some .int), 1070, 97, 1068, 1069),
  (⟨"TwoAlike$Twins", "own", "(III)I"⟩, prog_11_method_8_code, (some .int), 1078, 97, 1077, 38),
  (⟨"TwoAlike$Twins", "from", "(IIII)I"⟩, prog_11_method_9_code, (some .int), 1082, 97, 1081, 39),
  (⟨"TwoAlike$Twins", "run", "(III)I"⟩, prog_11_method_10_code, (some .int), 1090, 97, 1089, 40),
  (⟨"TwoAlike$Wardrobe", "<init>", "(LTwoAlike$Crowd;LTwoAlike$Likeness;)V"⟩, prog_12_method_1_code, none, 324, 94, 323, 0),
  (⟨"TwoAlike$Wardrobe", "findFewest", "()Z"⟩, prog_12_method_2_code, (some .boolean), 849, 94, 847, 848),
  (⟨"TwoAlike$Wardrobe", "findClashes", "(II)V"⟩, prog_12_method_3_code, none, 853, 94, 852, 27),
  (⟨"TwoAlike$Wardrobe", "chooseFrom", "(II)V"⟩, prog_12_method_4_code, none, 866, 94, 865, 28),
  (⟨"TwoAlike$Wardrobe", "choose", "(III)V"⟩, prog_12_method_5_code, none, 874, 94, 873, 30),
  (⟨"TwoAlike$Wardrobe", "leavesFree", "(II)Z"⟩, prog_12_method_6_code, (some .boolean), 878, 94, 877, 31),
  (⟨"TwoAlike$Wardrobe", "mustWear", "(I)I"⟩, prog_12_method_7_code, (some .int), 870, 94, 869, 29),
  (⟨"TwoAlike", "<init>", "()V"⟩, prog_1_method_1_code, none, 107, 87, 106, 0),
  (⟨"TwoAlike", "person", "(II)I"⟩, prog_1_method_2_code, (some .int), 499, 87, 497, 498),
  (⟨"TwoAlike", "people", "(III)I"⟩, prog_1_method_3_code, (some .int), 511, 87, 509, 510),
  (⟨"TwoAlike", "comeFromRow", "(III)I"⟩, prog_1_method_4_code, (some .int), 527, 87, 526, 0),
  (⟨"TwoAlike", "errand", "(II)I"⟩, prog_1_method_5_code, (some .int), 539, 87, 537, 538),
  (⟨"TwoAlike", "clear", "(I)I"⟩, prog_1_method_6_code, (some .int), 551, 87, 549, 550),
  (⟨"TwoAlike", "hat", "(II)I"⟩, prog_1_method_7_code, (some .int), 559, 87, 557, 558),
  (⟨"TwoAlike", "mend", "(III)I"⟩, prog_1_method_8_code, (some .int), 572, 87, 570, 571),
  (⟨"TwoAlike", "mayBecome", "(III)Z"⟩, prog_1_method_9_code, (some .boolean), 576, 87, 575, 1),
  (⟨"TwoAlike", "of", "(II)I"⟩, prog_1_method_10_code, (some .int), 596, 87, 594, 595),
  (⟨"TwoAlike", "ofPerson", "(II)I"⟩, prog_1_method_11_code, (some .int), 600, 87, 599, 3),
  (⟨"TwoAlike", "ofSight", "(II)I"⟩, prog_1_method_12_code, (some .int), 619, 87, 618, 4),
  (⟨"TwoAlike", "feed", "(I)I"⟩, prog_1_method_13_code, (some .int), 623, 87, 621, 622),
  (⟨"TwoAlike", "law", "()I"⟩, prog_1_method_14_code, (some .int), 631, 87, 629, 630),
  (⟨"TwoAlike", "alike", "(I)I"⟩, prog_1_method_15_code, (some .int), 701, 87, 699, 700),
  (⟨"TwoAlike", "plan", "()I"⟩, prog_1_method_16_code, (some .int), 753, 87, 751, 752),
  (⟨"TwoAlike", "where", "(II)I"⟩, prog_1_method_17_code, (some .int), 794, 87, 792, 793),
  (⟨"TwoAlike", "waited", "(II)I"⟩, prog_1_method_18_code, (some .int), 805, 87, 803, 804),
  (⟨"TwoAlike", "best", "(I)I"⟩, prog_1_method_19_code, (some .int), 809, 87, 807, 808),
  (⟨"TwoAlike", "bars", "(I)I"⟩, prog_1_method_20_code, (some .int), 833, 87, 831, 832),
  (⟨"TwoAlike", "led", "(II)I"⟩, prog_1_method_21_code, (some .int), 841, 87, 839, 840),
  (⟨"TwoAlike", "hats", "(I)I"⟩, prog_1_method_22_code, (some .int), 845, 87, 843, 844),
  (⟨"TwoAlike", "needs", "()I"⟩, prog_1_method_23_code, (some .int), 882, 87, 880, 881),
  (⟨"TwoAlike", "kinds", "(I)I"⟩, prog_1_method_24_code, (some .int), 890, 87, 888, 889),
  (⟨"TwoAlike", "pass", "(I)I"⟩, prog_1_method_25_code, (some .int), 909, 87, 907, 908),
  (⟨"TwoAlike", "go", "(III)I"⟩, prog_1_method_26_code, (some .int), 919, 87, 917, 918),
  (⟨"TwoAlike", "judge", "(I)I"⟩, prog_1_method_27_code, (some .int), 927, 87, 925, 926),
  (⟨"TwoAlike", "watch", "(II)I"⟩, prog_1_method_28_code, (some .int), 944, 87, 942, 943),
  (⟨"TwoAlike", "sight", "(II)I"⟩, prog_1_method_29_code, (some .int), 957, 87, 955, 956),
  (⟨"TwoAlike", "atLeast", "(I)I"⟩, prog_1_method_30_code, (some .int), 965, 87, 963, 964),
  (⟨"TwoAlike", "who", "(I)I"⟩, prog_1_method_31_code, (some .int), 986, 87, 984, 985),
  (⟨"TwoAlike", "gone", "(II)I"⟩, prog_1_method_32_code, (some .int), 1001, 87, 999, 1000),
  (⟨"TwoAlike", "months", "(I)I"⟩, prog_1_method_33_code, (some .int), 1015, 87, 1013, 1014),
  (⟨"TwoAlike", "turn", "()I"⟩, prog_1_method_34_code, (some .int), 1019, 87, 1017, 1018),
  (⟨"TwoAlike", "image", "()I"⟩, prog_1_method_35_code, (some .int), 1027, 87, 1025, 1026),
  (⟨"TwoAlike", "back", "()I"⟩, prog_1_method_36_code, (some .int), 1035, 87, 1033, 1034),
  (⟨"TwoAlike", "undo", "()I"⟩, prog_1_method_37_code, (some .int), 1039, 87, 1037, 1038),
  (⟨"TwoAlike", "redo", "()I"⟩, prog_1_method_38_code, (some .int), 1047, 87, 1045, 1046),
  (⟨"TwoAlike", "body", "(I)I"⟩, prog_1_method_39_code, (some .int), 1055, 87, 1053, 1054),
  (⟨"TwoAlike", "act", "(III)I"⟩, prog_1_method_40_code, (some .int), 1066, 87, 1064, 1065),
  (⟨"TwoAlike", "trace", "(I)I"⟩, prog_1_method_41_code, (some .int), 1094, 87, 1092, 1093),
  (⟨"TwoAlike", "keep", "(II)I"⟩, prog_1_method_42_code, (some .int), 1103, 87, 1101, 1102),
  (⟨"TwoAlike", "row", "(III)I"⟩, prog_1_method_43_code, (some .int), 1112, 87, 1110, 1111),
  (⟨"TwoAlike", "put", "(IIJ)I"⟩, prog_1_method_44_code, (some .int), 1124, 87, 1122, 1123),
  (⟨"TwoAlike", "element", "(II)J"⟩, prog_1_method_45_code, (some .long), 1140, 87, 1138, 1139),
  (⟨"TwoAlike", "shift", "(IIIII)I"⟩, prog_1_method_46_code, (some .int), 1145, 87, 1143, 1144),
  (⟨"TwoAlike", "taken", "(II)I"⟩, prog_1_method_47_code, (some .int), 1161, 87, 1159, 1160),
  (⟨"TwoAlike", "count", "(I)I"⟩, prog_1_method_48_code, (some .int), 1172, 87, 1170, 1171),
  (⟨"TwoAlike", "isParts", "(J)Z"⟩, prog_1_method_49_code, (some .boolean), 502, 87, 501, 0),
  (⟨"TwoAlike", "isMinute", "(I)Z"⟩, prog_1_method_50_code, (some .boolean), 797, 87, 796, 0),
  (⟨"TwoAlikeModel", "within", "(JJJ)Z"⟩, prog_14_method_1_code, (some .boolean), 1364, 99, 1363, 0),
  (⟨"TwoAlikeModel", "bitsOf", "(I)I"⟩, prog_14_method_2_code, (some .int), 1503, 99, 1502, 0),
  (⟨"TwoAlikeModel", "isIn", "(II)Z"⟩, prog_14_method_3_code, (some .boolean), 1397, 99, 1396, 0),
  (⟨"TwoAlikeModel", "<init>", "()V"⟩, prog_14_method_4_code, none, 1181, 99, 1180, 0),
  (⟨"TwoAlikeModel", "becomes", "(II)I"⟩, prog_14_method_5_code, (some .int), 1406, 99, 1405, 44),
  (⟨"TwoAlikeModel", "undo", "()I"⟩, prog_14_method_6_code, (some .int), 1349, 99, 1347, 1348),
  (⟨"TwoAlikeModel", "redo", "()I"⟩, prog_14_method_7_code, (some .int), 1353, 99, 1351, 1352),
  (⟨"TwoAlikeModel", "isPerson", "(I)Z"⟩, prog_14_method_8_code, (some .boolean), 1385, 99, 1384, 43),
  (⟨"TwoAlikeModel", "isPq", "(I)Z"⟩, prog_14_method_9_code, (some .boolean), 1489, 99, 1488, 58),
  (⟨"TwoAlikeModel", "areLooks", "(J)Z"⟩, prog_14_method_10_code, (some .boolean), 1360, 99, 1359, 0),
  (⟨"TwoAlikeModel", "adds", "(II)V"⟩, prog_14_method_11_code, none, 1368, 99, 1367, 42),
  (⟨"TwoAlikeModel", "person", "(II)I"⟩, prog_14_method_12_code, (some .int), 1357, 99, 1355, 1356),
  (⟨"TwoAlikeModel", "people", "(III)I"⟩, prog_14_method_13_code, (some .int), 1372, 99, 1370, 1371),
  (⟨"TwoAlikeModel", "errand", "(II)I"⟩, prog_14_method_14_code, (some .int), 1381, 99, 1379, 1380),
  (⟨"TwoAlikeModel", "clear", "(I)I"⟩, prog_14_method_15_code, (some .int), 1390, 99, 1388, 1389),
  (⟨"TwoAlikeModel", "hat", "(II)I"⟩, prog_14_method_16_code, (some .int), 1394, 99, 1392, 1393),
  (⟨"TwoAlikeModel", "mend", "(III)I"⟩, prog_14_method_17_code, (some .int), 1402, 99, 1400, 1401),
  (⟨"TwoAlikeModel", "seenWith", "(II)I"⟩, prog_14_method_18_code, (some .int), 1422, 99, 1421, 0),
  (⟨"TwoAlikeModel", "seenOf", "(I)I"⟩, prog_14_method_19_code, (some .int), 1419, 99, 1418, 46),
  (⟨"TwoAlikeModel", "minutesOf", "(I)I"⟩, prog_14_method_20_code, (some .int), 1426, 99, 1425, 47),
  (⟨"TwoAlikeModel", "ofPerson", "(II)I"⟩, prog_14_method_21_code, (some .int), 1415, 99, 1414, 45),
  (⟨"TwoAlikeModel", "of", "(II)I"⟩, prog_14_method_22_code, (some .int), 1411, 99, 1409, 1410),
  (⟨"TwoAlikeModel", "feed", "(I)I"⟩, prog_14_method_23_code, (some .int), 1433, 99, 1431, 1432),
  (⟨"TwoAlikeModel", "byteAt", "()I"⟩, prog_14_method_24_code, (some .int), 1470, 99, 1469, 55),
  (⟨"TwoAlikeModel", "wrong", "()I"⟩, prog_14_method_25_code, (some .int), 1474, 99, 1473, 56),
  (⟨"TwoAlikeModel", "takes", "(I)Z"⟩, prog_14_method_26_code, (some .boolean), 1478, 99, 1477, 57),
  (⟨"TwoAlikeModel", "either", "()I"⟩, prog_14_method_27_code, (some .int), 1446, 99, 1445, 49),
  (⟨"TwoAlikeModel", "both", "()I"⟩, prog_14_method_28_code, (some .int), 1450, 99, 1449, 50),
  (⟨"TwoAlikeModel", "compared", "()I"⟩, prog_14_method_29_code, (some .int), 1454, 99, 1453, 51),
  (⟨"TwoAlikeModel", "sums", "()I"⟩, prog_14_method_30_code, (some .int), 1458, 99, 1457, 52),
  (⟨"TwoAlikeModel", "product", "()I"⟩, prog_14_method_31_code, (some .int), 1462, 99, 1461, 53),
  (⟨"TwoAlikeModel", "nameOf", "(I)I"⟩, prog_14_method_32_code, (some .int), 1481, 99, 1480, 0),
  (⟨"TwoAlikeModel", "one", "()I"⟩, prog_14_method_33_code, (some .int), 1466, 99, 1465, 54),
  (⟨"TwoAlikeModel", "workOut", "(II)I"⟩, prog_14_method_34_code, (some .int), 1442, 99, 1441, 48),
  (⟨"TwoAlikeModel", "law", "()I"⟩, prog_14_method_35_code, (some .int), 1438, 99, 1436, 1437),
  (⟨"TwoAlikeModel", "areAlike", "(IIII)Z"⟩, prog_14_method_36_code, (some .boolean), 1500, 99, 1499, 60),
  (⟨"TwoAlikeModel", "hatBit", "(I)I"⟩, prog_14_method_37_code, (some .int), 1496, 99, 1495, 0),
  (⟨"TwoAlikeModel", "isAlike", "(II)Z"⟩, prog_14_method_38_code, (some .boolean), 1493, 99, 1492, 59),
  (⟨"TwoAlikeModel", "alike", "(I)I"⟩, prog_14_method_39_code, (some .int), 1485, 99, 1483, 1484),
  (⟨"TwoAlikeModel", "asksLikes", "()V"⟩, prog_14_method_40_code, none, 1515, 99, 1514, 62),
  (⟨"TwoAlikeModel", "isShut", "(III)Z"⟩, prog_14_method_41_code, (some .boolean), 1527, 99, 1526, 65),
  (⟨"TwoAlikeModel", "begins1", "(III)I"⟩, prog_14_method_42_code, (some .int), 1523, 99, 1522, 64),
  (⟨"TwoAlikeModel", "plansOne", "(I)V"⟩, prog_14_method_43_code, none, 1519, 99, 1518, 63),
  (⟨"TwoAlikeModel", "plansNow", "(I)V"⟩, prog_14_method_44_code, none, 1511, 99, 1510, 61),
  (⟨"TwoAlikeModel", "costOf", "(I)I"⟩, prog_14_method_45_code, (some .int), 1535, 99, 1534, 67),
  (⟨"TwoAlikeModel", "allWaited", "()I"⟩, prog_14_method_46_code, (some .int), 1531, 99, 1530, 66),
  (⟨"TwoAlikeModel", "plan", "()I"⟩, prog_14_method_47_code, (some .int), 1507, 99, 1505, 1506),
  (⟨"TwoAlikeModel", "where", "(II)I"⟩, prog_14_method_48_code, (some .int), 1539, 99, 1537, 1538),
  (⟨"TwoAlikeModel", "waited", "(II)I"⟩, prog_14_method_49_code, (some .int), 1544, 99, 1542, 1543),
  (⟨"TwoAlikeModel", "ordersOn", "(III)V"⟩, prog_14_method_50_code, none, 1552, 99, 1551, 68),
  (⟨"TwoAlikeModel", "best", "(I)I"⟩, prog_14_method_51_code, (some .int), 1548, 99, 1546, 1547),
  (⟨"TwoAlikeModel", "bars", "(I)I"⟩, prog_14_method_52_code, (some .int), 1556, 99, 1554, 1555),
  (⟨"TwoAlikeModel", "led", "(II)I"⟩, prog_14_method_53_code, (some .int), 1560, 99, 1558, 1559),
  (⟨"TwoAlikeModel", "clashAt", "(IIII)I"⟩, prog_14_method_54_code, (some .int), 1571, 99, 1570, 0),
  (⟨"TwoAlikeModel", "mayWear", "(II)Z"⟩, prog_14_method_55_code, (some .boolean), 1579, 99, 1578, 71),
  (⟨"TwoAlikeModel", "asksHats", "()V"⟩, prog_14_method_56_code, none, 1568, 99, 1567, 69),
  (⟨"TwoAlikeModel", "wearsFrom", "(II)Z"⟩, prog_14_method_57_code, (some .boolean), 1575, 99, 1574, 70),
  (⟨"TwoAlikeModel", "hats", "(I)I"⟩, prog_14_method_58_code, (some .int), 1564, 99, 1562, 1563),
  (⟨"TwoAlikeModel", "needs", "()I"⟩, prog_14_method_59_code, (some .int), 1583, 99, 1581, 1582),
  (⟨"TwoAlikeModel", "isKind", "(I)Z"⟩, prog_14_method_60_code, (some .boolean), 1591, 99, 1590, 72),
  (⟨"TwoAlikeModel", "kinds", "(I)I"⟩, prog_14_method_61_code, (some .int), 1587, 99, 1585, 1586),
  (⟨"TwoAlikeModel", "pass", "(I)I"⟩, prog_14_method_62_code, (some .int), 1595, 99, 1593, 1594),
  (⟨"TwoAlikeModel", "go", "(III)I"⟩, prog_14_method_63_code, (some .int), 1599, 99, 1597, 1598),
  (⟨"TwoAlikeModel", "judge", "(I)I"⟩, prog_14_method_64_code, (some .int), 1605, 99, 1603, 1604),
  (⟨"TwoAlikeModel", "watch", "(II)I"⟩, prog_14_method_65_code, (some .int), 1610, 99, 1608, 1609),
  (⟨"TwoAlikeModel", "sight", "(II)I"⟩, prog_14_method_66_code, (some .int), 1614, 99, 1612, 1613),
  (⟨"TwoAlikeModel", "doBar", "(III)Z"⟩, prog_14_method_67_code, (some .boolean), 1622, 99, 1621, 73),
  (⟨"TwoAlikeModel", "isOne", "(I)Z"⟩, prog_14_method_68_code, (some .boolean), 1626, 99, 1625, 74),
  (⟨"TwoAlikeModel", "atLeast", "(I)I"⟩, prog_14_method_69_code, (some .int), 1618, 99, 1616, 1617),
  (⟨"TwoAlikeModel", "canBe", "(II)Z"⟩, prog_14_method_70_code, (some .boolean), 1638, 99, 1637, 76),
  (⟨"TwoAlikeModel", "whoIs", "(I)I"⟩, prog_14_method_71_code, (some .int), 1634, 99, 1633, 75),
  (⟨"TwoAlikeModel", "who", "(I)I"⟩, prog_14_method_72_code, (some .int), 1630, 99, 1628, 1629),
  (⟨"TwoAlikeModel", "gone", "(II)I"⟩, prog_14_method_73_code, (some .int), 1642, 99, 1640, 1641),
  (⟨"TwoAlikeModel", "months", "(I)I"⟩, prog_14_method_74_code, (some .int), 1646, 99, 1644, 1645),
  (⟨"TwoAlikeModel", "turn", "()I"⟩, prog_14_method_75_code, (some .int), 1651, 99, 1649, 1650),
  (⟨"TwoAlikeModel", "image", "()I"⟩, prog_14_method_76_code, (some .int), 1655, 99, 1653, 1654),
  (⟨"TwoAlikeModel", "back", "()I"⟩, prog_14_method_77_code, (some .int), 1659, 99, 1657, 1658),
  (⟨"TwoAlikeModel", "allErrands", "()I"⟩, prog_14_method_78_code, (some .int), 1742, 99, 1741, 85),
  (⟨"TwoAlikeModel", "isBody", "(I)Z"⟩, prog_14_method_79_code, (some .boolean), 1671, 99, 1670, 77),
  (⟨"TwoAlikeModel", "kindOf", "(I)I"⟩, prog_14_method_80_code, (some .int), 1731, 99, 1730, 84),
  (⟨"TwoAlikeModel", "body", "(I)I"⟩, prog_14_method_81_code, (some .int), 1663, 99, 1661, 1662),
  (⟨"TwoAlikeModel", "above", "(I)I"⟩, prog_14_method_82_code, (some .int), 1734, 99, 1733, 0),
  (⟨"TwoAlikeModel", "begins", "(I)V"⟩, prog_14_method_83_code, none, 1679, 99, 1678, 79),
  (⟨"TwoAlikeModel", "looksAs", "(II)I"⟩, prog_14_method_84_code, (some .int), 1675, 99, 1674, 78),
  (⟨"TwoAlikeModel", "walksAs", "(II)I"⟩, prog_14_method_85_code, (some .int), 1683, 99, 1682, 80),
  (⟨"TwoAlikeModel", "waitsAs", "(II)I"⟩, prog_14_method_86_code, (some .int), 1687, 99, 1686, 81),
  (⟨"TwoAlikeModel", "tellsAs", "(II)I"⟩, prog_14_method_87_code, (some .int), 1691, 99, 1690, 82),
  (⟨"TwoAlikeModel", "act", "(III)I"⟩, prog_14_method_88_code, (some .int), 1667, 99, 1665, 1666),
  (⟨"TwoAlikeModel", "trace", "(I)I"⟩, prog_14_method_89_code, (some .int), 1695, 99, 1693, 1694),
  (⟨"TwoAlikeModel", "isShelf", "(I)Z"⟩, prog_14_method_90_code, (some .boolean), 1375, 99, 1374, 0),
  (⟨"TwoAlikeModel", "keep", "(II)I"⟩, prog_14_method_91_code, (some .int), 1699, 99, 1697, 1698),
  (⟨"TwoAlikeModel", "row", "(III)I"⟩, prog_14_method_92_code, (some .int), 1703, 99, 1701, 1702),
  (⟨"TwoAlikeModel", "refusal", "(II)I"⟩, prog_14_method_93_code, (some .int), 1711, 99, 1710, 83),
  (⟨"TwoAlikeModel", "asSort", "(IJ)J"⟩, prog_14_method_94_code, (some .long), 1714, 99, 1713, 0),
  (⟨"TwoAlikeModel", "put", "(IIJ)I"⟩, prog_14_method_95_code, (some .int), 1707, 99, 1705, 1706),
  (⟨"TwoAlikeModel", "element", "(II)J"⟩, prog_14_method_96_code, (some .long), 1718, 99, 1716, 1717),
  (⟨"TwoAlikeModel", "shift", "(IIIII)I"⟩, prog_14_method_97_code, (some .int), 1723, 99, 1721, 1722),
  (⟨"TwoAlikeModel", "taken", "(II)I"⟩, prog_14_method_98_code, (some .int), 1727, 99, 1725, 1726),
  (⟨"TwoAlikeModel", "count", "(I)I"⟩, prog_14_method_99_code, (some .int), 1738, 99, 1736, 1737),
  (⟨"java/lang/Integer", "bitCount", "(I)I"⟩, prog_15_method_49_code, (some .int), 725, 100, 724, 0),
  (⟨"java/lang/Math", "max", "(II)I"⟩, prog_16_method_65_code, (some .int), 734, 101, 733, 0),
  (⟨"java/lang/Math", "min", "(II)I"⟩, prog_16_method_69_code, (some .int), 731, 101, 730, 0),
  (⟨"TwoAlikeLaw", "law", "([I)Z"⟩, code, (some .boolean), 0, 0, 0, 0)]
/-- fields by owner and number: whose, slot, place of the word -/
def xF : List (List (Nat × Nat × Nat × Nat)) := [[(11, 0, 1, 382), (15, 0, 2, 383), (18, 0, 3, 384), (21, 0, 4, 385), (24, 0, 0, 381), (28, 0, 5, 386), (35, 0, 6, 388)],
  [(9, 1, 1, 154), (15, 1, 2, 155), (18, 1, 3, 157), (21, 1, 4, 158), (24, 1, 5, 161), (27, 1, 6, 163), (30, 1, 0, 153), (34, 1, 7, 165), (42, 5, 0, 119), (51, 1, 8, 173), (54, 1, 9, 176)],
  [(9, 2, 2, 274), (15, 2, 3, 275), (18, 2, 4, 276), (21, 2, 5, 277), (24, 2, 6, 279), (28, 2, 7, 281), (31, 2, 8, 282), (34, 2, 10, 286), (37, 2, 11, 288), (40, 2, 0, 272), (44, 2, 1, 273), (57, 1, 7, 168), (70, 1, 4, 159), (73, 1, 5, 162), (76, 1, 6, 164), (79, 4, 2, 258), (93, 2, 12, 290), (96, 2, 9, 284)],
  [(11, 3, 0, 204), (15, 3, 1, 205), (18, 3, 3, 208), (21, 3, 5, 210), (24, 3, 2, 206), (43, 3, 4, 209)],
  [(9, 4, 2, 256), (15, 4, 0, 254), (19, 4, 1, 255), (32, 1, 9, 174), (40, 1, 8, 171), (52, 1, 7, 169)],
  [(9, 5, 0, 117), (15, 5, 1, 120), (18, 5, 2, 121), (21, 5, 3, 124), (24, 5, 4, 127), (27, 5, 5, 130)],
  [(11, 6, 0, 436), (15, 6, 1, 437), (18, 6, 2, 438), (21, 6, 3, 439), (24, 6, 4, 440)],
  [(9, 7, 3, 359), (15, 7, 4, 360), (18, 7, 0, 356), (22, 7, 1, 357), (26, 7, 2, 358), (39, 1, 7, 167), (51, 4, 2, 257), (54, 5, 5, 131), (61, 7, 5, 361), (68, 5, 4, 128), (76, 5, 2, 122), (79, 5, 3, 125)],
  [(12, 8, 0, 232), (18, 8, 1, 234), (22, 8, 2, 235), (26, 8, 3, 237), (29, 3, 2, 207)],
  [(11, 9, 0, 410), (15, 9, 2, 414), (21, 9, 1, 412), (25, 9, 3, 416), (38, 9, 4, 418)],
  [(11, 10, 2, 328), (15, 10, 3, 329), (18, 10, 4, 330), (21, 10, 5, 331), (24, 10, 0, 326), (28, 10, 1, 327), (32, 1, 7, 166), (38, 1, 2, 156), (45, 10, 6, 333)],
  [(10, 11, 0, 453), (16, 11, 1, 454), (24, 11, 4, 457), (31, 11, 5, 458), (38, 11, 6, 459), (47, 11, 7, 460), (56, 11, 8, 461), (63, 11, 9, 462), (72, 11, 10, 463), (81, 11, 11, 464), (88, 11, 12, 465), (95, 11, 13, 466), (146, 5, 0, 118), (170, 1, 8, 172), (174, 1, 9, 175), (180, 1, 4, 160), (186, 5, 2, 123), (189, 5, 3, 126), (192, 5, 4, 129), (202, 8, 3, 238), (205, 8, 0, 233), (212, 8, 2, 236), (237, 2, 5, 278), (240, 2, 6, 280), (244, 1, 7, 170), (250, 2, 9, 285), (253, 2, 8, 283), (259, 2, 12, 291), (262, 2, 10, 287), (265, 2, 11, 289), (271, 10, 6, 334), (274, 10, 5, 332), (324, 11, 2, 455), (328, 11, 3, 456), (349, 9, 2, 415), (380, 9, 0, 411), (389, 5, 5, 132), (392, 0, 5, 387), (395, 9, 1, 413), (396, 9, 3, 417)],
  [(9, 12, 0, 1183), (13, 12, 1, 1184), (16, 12, 2, 1185), (19, 12, 3, 1186), (22, 12, 7, 1190), (25, 12, 8, 1191), (28, 12, 9, 1192), (31, 12, 10, 1193), (34, 12, 11, 1194), (37, 12, 13, 1196), (40, 12, 20, 1203), (43, 12, 21, 1204), (46, 12, 22, 1205), (49, 12, 23, 1206), (53, 12, 24, 1207), (56, 12, 26, 1209), (59, 12, 27, 1210), (62, 12, 28, 1211), (65, 12, 29, 1212), (68, 12, 31, 1214), (71, 12, 32, 1215), (74, 12, 33, 1216), (77, 12, 35, 1218), (80, 12, 36, 1219), (83, 12, 37, 1220), (86, 12, 41, 1224), (89, 12, 42, 1225), (92, 12, 43, 1226), (95, 12, 45, 1228), (98, 12, 46, 1229), (101, 12, 50, 1233), (104, 12, 51, 1234), (107, 12, 52, 1235), (111, 12, 53, 1236), (114, 12, 14, 1197), (118, 12, 5, 1188), (121, 12, 4, 1187), (124, 12, 6, 1189), (184, 12, 34, 1217), (189, 12, 12, 1195), (192, 12, 16, 1199), (195, 12, 17, 1200), (198, 12, 15, 1198), (201, 12, 18, 1201), (226, 12, 19, 1202), (257, 12, 25, 1208), (286, 12, 30, 1213), (329, 12, 38, 1221), (333, 12, 39, 1222), (336, 12, 40, 1223), (339, 12, 44, 1227), (342, 12, 47, 1230), (351, 12, 49, 1232), (357, 12, 48, 1231)],
  [],
  [],
  []]
/-- calls: method, arguments, place of the word, 1 of a nest mate -/
def xC : List (List (Nat × Nat × Nat × Nat × Nat)) := [[(3, 9999, 0, 380, 0), (32, 2, 0, 585, 0), (38, 21, 3, 589, 0)],
  [(3, 9999, 0, 152, 0), (38, 6, 1, 706, 0), (47, 19, 2, 605, 0)],
  [(3, 9999, 0, 271, 0), (48, 52, 0, 758, 0), (53, 25, 1, 763, 0), (63, 26, 2, 767, 0), (67, 27, 1, 771, 0), (82, 28, 2, 775, 0), (85, 29, 3, 779, 0), (89, 12, 1, 782, 0), (99, 35, 3, 814, 0), (103, 38, 1, 818, 0), (106, 37, 2, 822, 0), (109, 36, 4, 826, 0)],
  [(3, 9999, 0, 203, 0), (28, 273, 1, 723, 0), (34, 275, 2, 729, 0), (40, 274, 2, 732, 0), (46, 47, 0, 735, 0), (50, 44, 2, 739, 0), (54, 46, 1, 743, 0), (58, 45, 3, 747, 0)],
  [(3, 9999, 0, 253, 0), (23, 14, 1, 711, 0), (29, 51, 1, 712, 0), (36, 18, 2, 715, 0), (43, 43, 5, 719, 0), (49, 17, 2, 859, 0), (55, 49, 3, 762, 0), (59, 52, 0, 895, 0), (62, 8, 0, 896, 0), (66, 273, 1, 900, 0), (71, 55, 1, 901, 0), (75, 15, 2, 914, 0), (79, 50, 4, 915, 0)],
  [(3, 9999, 0, 116, 0), (31, 62, 2, 949, 0)],
  [(3, 9999, 0, 435, 0), (28, 66, 1, 1129, 0), (32, 77, 2, 1134, 0), (36, 69, 2, 1150, 0), (40, 79, 3, 1151, 0)],
  [(3, 9999, 0, 355, 0), (30, 52, 0, 932, 0), (35, 82, 1, 933, 0), (45, 62, 2, 937, 0), (57, 84, 3, 970, 0), (64, 85, 2, 975, 0), (71, 273, 1, 974, 0), (82, 86, 3, 979, 0), (86, 88, 2, 991, 0), (90, 16, 1, 995, 0), (93, 15, 2, 996, 0), (96, 17, 2, 997, 0), (99, 87, 1, 1006, 0), (102, 8, 0, 1007, 0)],
  [(3, 9999, 0, 229, 0), (11, 39, 0, 231, 1), (30, 96, 0, 636, 0), (34, 95, 1, 686, 0), (38, 94, 0, 664, 0), (42, 97, 1, 640, 0), (45, 41, 2, 675, 0), (49, 42, 1, 690, 0), (53, 98, 1, 644, 0), (56, 99, 1, 648, 0), (59, 100, 1, 652, 0), (62, 101, 1, 656, 0), (65, 102, 1, 660, 0), (68, 105, 1, 668, 0), (71, 104, 0, 671, 0), (74, 106, 1, 679, 0), (78, 103, 2, 682, 0)],
  [(3, 9999, 0, 409, 0), (28, 275, 2, 1099, 0), (34, 110, 1, 1071, 0), (41, 114, 3, 1075, 0), (45, 115, 4, 1079, 0), (52, 116, 3, 1087, 0)],
  [(3, 9999, 0, 325, 0), (41, 119, 2, 850, 0), (48, 120, 2, 863, 0), (51, 15, 2, 854, 0), (55, 50, 4, 855, 0), (61, 123, 1, 867, 0), (65, 121, 3, 871, 0), (69, 122, 2, 875, 0)],
  [(1, 9999, 0, 108, 0), (9, 57, 0, 113, 0), (21, 5, 1, 149, 0), (30, 39, 0, 200, 1), (37, 91, 0, 226, 1), (44, 48, 2, 250, 0), (53, 23, 2, 268, 0), (62, 117, 2, 322, 0), (69, 80, 3, 352, 0), (78, 0, 1, 377, 0), (87, 107, 0, 406, 1), (94, 65, 0, 432, 1), (99, 172, 1, 500, 0), (103, 9, 2, 504, 0), (107, 66, 1, 512, 0), (111, 68, 1, 516, 0), (114, 69, 2, 520, 0), (118, 127, 3, 524, 0), (122, 70, 1, 528, 0), (126, 75, 2, 532, 0), (130, 6, 1, 540, 0), (133, 10, 3, 544, 0), (136, 11, 1, 552, 0), (139, 15, 2, 560, 0), (143, 14, 1, 565, 0), (150, 132, 3, 573, 0), (154, 20, 2, 577, 0), (157, 1, 4, 581, 0), (161, 134, 2, 597, 0), (164, 59, 1, 612, 0), (167, 135, 2, 616, 0), (177, 16, 1, 601, 0), (183, 12, 1, 608, 0), (195, 92, 1, 624, 0), (198, 93, 0, 632, 0), (208, 40, 1, 694, 0), (215, 7, 1, 702, 0), (218, 49, 3, 707, 0), (221, 24, 0, 754, 0), (224, 32, 0, 783, 0), (227, 30, 0, 787, 0), (231, 173, 1, 795, 0), (234, 31, 2, 798, 0), (247, 34, 0, 810, 0), (256, 33, 1, 834, 0), (268, 118, 0, 846, 0), (277, 53, 1, 883, 0), (280, 54, 0, 891, 0), (283, 273, 1, 905, 0), (288, 56, 2, 910, 0), (291, 61, 4, 920, 0), (295, 81, 0, 928, 0), (298, 63, 2, 945, 0), (301, 64, 2, 950, 0), (304, 60, 3, 958, 0), (307, 83, 1, 966, 0), (310, 87, 1, 987, 0), (313, 89, 1, 1002, 0), (316, 90, 1, 1008, 0), (319, 22, 0, 1020, 0), (322, 58, 1, 1028, 0), (331, 3, 0, 1040, 0), (334, 4, 0, 1048, 0), (337, 108, 1, 1056, 0), (340, 111, 1, 1059, 0), (343, 113, 3, 1067, 0), (346, 112, 0, 1095, 0), (352, 110, 1, 1104, 0), (353, 72, 2, 1105, 0), (356, 67, 1, 1113, 0), (359, 73, 3, 1117, 0), (362, 74, 2, 1125, 0), (365, 76, 3, 1130, 0), (373, 78, 5, 1146, 0), (377, 71, 1, 1162, 0), (383, 109, 2, 1166, 0), (386, 13, 0, 1173, 0)],
  [(3, 9999, 0, 1182, 0), (127, 174, 3, 1362, 0), (131, 181, 1, 1382, 0), (137, 183, 1, 1358, 0), (141, 184, 2, 1365, 0), (145, 263, 1, 1373, 0), (154, 176, 2, 1395, 0), (159, 178, 2, 1403, 0), (165, 191, 2, 1420, 0), (168, 192, 1, 1416, 0), (172, 193, 1, 1423, 0), (175, 194, 2, 1412, 0), (204, 197, 0, 1467, 0), (208, 201, 0, 1447, 0), (211, 199, 1, 1475, 0), (214, 202, 0, 1451, 0), (217, 203, 0, 1455, 0), (220, 204, 0, 1459, 0), (223, 206, 0, 1463, 0), (229, 198, 0, 1471, 0), (232, 200, 0, 1443, 0), (235, 205, 1, 1479, 0), (238, 207, 2, 1439, 0), (241, 175, 1, 1501, 0), (244, 210, 1, 1494, 0), (247, 209, 4, 1497, 0), (251, 182, 1, 1486, 0), (254, 211, 2, 1490, 0), (260, 214, 3, 1524, 0), (264, 215, 3, 1520, 0), (268, 213, 0, 1512, 0), (271, 216, 1, 1516, 0), (275, 218, 1, 1532, 0), (278, 217, 1, 1508, 0), (281, 219, 0, 1528, 0), (289, 223, 3, 1549, 0), (293, 227, 4, 1569, 0), (297, 228, 2, 1576, 0), (300, 230, 2, 1572, 0), (303, 229, 0, 1565, 0), (306, 233, 1, 1588, 0), (315, 240, 3, 1619, 0), (318, 241, 1, 1623, 0), (321, 243, 2, 1635, 0), (324, 244, 1, 1631, 0), (345, 256, 1, 1676, 0), (348, 257, 2, 1672, 0), (354, 258, 2, 1680, 0), (360, 259, 2, 1684, 0), (363, 260, 2, 1688, 0), (366, 252, 1, 1668, 0), (369, 266, 2, 1708, 0), (372, 267, 2, 1712, 0), (380, 253, 1, 1728, 0), (383, 255, 1, 1732, 0), (386, 251, 0, 1739, 0)],
  [],
  [],
  [(9, 124, 0, 105, 0), (12, 177, 0, 1179, 0), (13, 125, 2, 496, 0), (17, 185, 2, 1354, 0), (18, 126, 3, 508, 0), (22, 186, 3, 1369, 0), (23, 128, 2, 536, 0), (26, 187, 2, 1378, 0), (27, 129, 1, 548, 0), (31, 188, 1, 1387, 0), (32, 130, 2, 556, 0), (35, 189, 2, 1391, 0), (36, 131, 3, 569, 0), (39, 190, 3, 1399, 0), (40, 133, 2, 593, 0), (43, 195, 2, 1408, 0), (44, 136, 1, 620, 0), (47, 196, 1, 1430, 0), (48, 137, 0, 628, 0), (52, 208, 0, 1435, 0), (53, 138, 1, 698, 0), (56, 212, 1, 1482, 0), (57, 139, 0, 750, 0), (60, 220, 0, 1504, 0), (61, 140, 2, 791, 0), (64, 221, 2, 1536, 0), (65, 141, 2, 802, 0), (68, 222, 2, 1541, 0), (69, 142, 1, 806, 0), (72, 224, 1, 1545, 0), (73, 143, 1, 830, 0), (76, 225, 1, 1553, 0), (77, 144, 2, 838, 0), (80, 226, 2, 1557, 0), (81, 145, 1, 842, 0), (84, 231, 1, 1561, 0), (85, 146, 0, 879, 0), (88, 232, 0, 1580, 0), (89, 147, 1, 887, 0), (92, 234, 1, 1584, 0), (93, 148, 1, 906, 0), (96, 235, 1, 1592, 0), (97, 149, 3, 916, 0), (100, 236, 3, 1596, 0), (101, 150, 1, 924, 0), (104, 237, 1, 1602, 0), (105, 151, 2, 941, 0), (108, 238, 2, 1607, 0), (109, 152, 2, 954, 0), (112, 239, 2, 1611, 0), (113, 153, 1, 962, 0), (116, 242, 1, 1615, 0), (117, 154, 1, 983, 0), (120, 245, 1, 1627, 0), (121, 155, 2, 998, 0), (124, 246, 2, 1639, 0), (125, 156, 1, 1012, 0), (128, 247, 1, 1643, 0), (129, 157, 0, 1016, 0), (132, 248, 0, 1648, 0), (133, 158, 0, 1024, 0), (136, 249, 0, 1652, 0), (137, 159, 0, 1032, 0), (140, 250, 0, 1656, 0), (141, 160, 0, 1036, 0), (144, 179, 0, 1346, 0), (145, 161, 0, 1044, 0), (148, 180, 0, 1350, 0), (149, 162, 1, 1052, 0), (152, 254, 1, 1660, 0), (153, 163, 3, 1063, 0), (156, 261, 3, 1664, 0), (157, 164, 1, 1091, 0), (160, 262, 1, 1692, 0), (161, 165, 2, 1100, 0), (164, 264, 2, 1696, 0), (165, 166, 3, 1109, 0), (168, 265, 3, 1700, 0), (171, 167, 3, 1121, 0), (175, 268, 3, 1704, 0), (176, 168, 2, 1137, 0), (180, 269, 2, 1715, 0), (181, 169, 5, 1142, 0), (185, 270, 5, 1720, 0), (186, 170, 2, 1158, 0), (189, 271, 2, 1724, 0), (190, 171, 1, 1169, 0), (193, 272, 1, 1735, 0)]]
/-- new: whose, place of the word -/
def xW : List (List (Nat × Nat × Nat)) := [[],
  [],
  [],
  [],
  [],
  [],
  [],
  [],
  [(9, 3, 230)],
  [],
  [],
  [(7, 5, 111), (19, 1, 147), (28, 3, 198), (35, 8, 224), (42, 4, 248), (51, 2, 266), (60, 10, 320), (67, 7, 350), (76, 0, 375), (85, 9, 404), (92, 6, 430)],
  [],
  [],
  [],
  [(7, 11, 103), (10, 12, 1177)]]
/-- ints of the pool -/
def xI : List (List (Nat × Int32 × Nat)) := [[],
  [],
  [],
  [],
  [],
  [],
  [],
  [],
  [],
  [],
  [],
  [(142, (-2000000000), 564)],
  [(158, (-2000000000), 1398)],
  [(265, 1431655765, 726), (266, 858993459, 727), (267, 252645135, 728)],
  [],
  []]
/-- longs of the pool -/
def xJ : List (List (Nat × Int64 × Nat)) := [[],
  [],
  [],
  [],
  [],
  [],
  [],
  [],
  [],
  [],
  [],
  [(371, (-9223372036854775808), 1141), (399, 63, 503)],
  [(135, 63, 1361), (148, 7, 1377), (150, 6, 1386), (152, 5, 1376), (163, 11, 1407), (178, 10, 1427), (180, 20, 1428), (182, 22, 1429), (187, 255, 1434), (284, 29, 1540), (309, (-1), 1600), (311, 4, 1601), (313, 2, 1606), (327, 12, 1647), (378, (-9223372036854775808), 1719)],
  [],
  [],
  [(169, 4294967295, 1743)]]
/-- statics: which row, place of the word -/
def xG : List (List (Nat × Nat × Nat)) := [[],
  [],
  [],
  [],
  [],
  [],
  [],
  [],
  [],
  [(18, 1, 1085), (49, 2, 1083)],
  [],
  [],
  [],
  [],
  [],
  []]
/-- the statics: owner, name, descriptor, row, places of the words (laid, initialized) -/
def xSt : List (String × String × String × Nat × Nat × Nat) := [("TwoAlike$Twins", "ABOVE", "[I", 1, 1086, 97), ("TwoAlike$Twins", "BODIES", "[I", 2, 1084, 97)]
/-- copies: place of the word -/
def xY : List (List (Nat × Nat)) := [[],
  [],
  [],
  [],
  [],
  [],
  [(44, 1155)],
  [],
  [],
  [],
  [],
  [],
  [],
  [],
  [],
  []]
def xYp : Nat × Nat × Nat := (1157, 1156, 102)
/-- what a new object holds -/
def xD : List (List Value) := [[.null, .null, .null, .null, .null, .int 0, .int 0], [.null, .null, .null, .null, .null, .null, .null, .int 0, .int 0, .int 0], [.null, .null, .null, .null, .null, .null, .null, .null, .null, .int 0, .null, .null, .int 0], [.null, .null, .int 0, .null, .int 0, .null], [.null, .null, .null], [.null, .null, .null, .null, .null, .int 0], [.null, .null, .null, .null, .null], [.null, .null, .null, .null, .null, .int 0], [.null, .null, .int 0, .int 0], [.null, .int 0, .null, .int 0, .int 0], [.null, .null, .null, .null, .null, .null, .int 0], [.null, .null, .int 0, .int 0, .null, .null, .null, .null, .null, .null, .null, .null, .null, .null], [.null, .null, .null, .null, .int 0, .int 0, .int 0, .null, .null, .null, .null, .null, .int 0, .null, .int 0, .int 0, .int 0, .int 0, .int 0, .int 0, .null, .null, .null, .null, .null, .int 0, .null, .null, .null, .null, .int 0, .null, .null, .null, .int 0, .null, .null, .null, .int 0, .int 0, .int 0, .null, .null, .null, .int 0, .null, .null, .int 0, .int 0, .int 0, .null, .null, .null, .null]]
/-- sorts of fields: 0 int, 1 boolean, 3 array, 4 object; 10 more: final -/
def xT : List (List Nat) := [[14, 13, 13, 13, 13, 0, 0], [14, 13, 13, 13, 13, 13, 13, 0, 0, 0], [14, 14, 13, 13, 13, 13, 13, 13, 13, 0, 13, 13, 0], [13, 13, 0, 13, 0, 13], [14, 14, 13], [13, 13, 13, 13, 13, 0], [13, 13, 13, 13, 13], [14, 14, 14, 13, 13, 0], [14, 13, 0, 0], [13, 0, 13, 0, 0], [14, 14, 13, 13, 13, 13, 0], [14, 14, 1, 0, 14, 14, 14, 14, 14, 14, 14, 14, 14, 14], [13, 13, 13, 13, 0, 0, 0, 13, 13, 13, 13, 13, 0, 13, 0, 0, 0, 0, 0, 0, 13, 13, 13, 13, 13, 0, 13, 13, 13, 13, 0, 13, 13, 13, 0, 13, 13, 13, 1, 0, 0, 13, 13, 13, 0, 13, 13, 0, 0, 0, 13, 13, 13, 13]]
/-- places of the owners' words: those of the fields; instantiable; initialized -/
def xP : List (List Nat × Nat × Nat) := [([389, 391, 393, 395, 397, 399, 401], 376, 96), ([177, 179, 181, 183, 185, 187, 189, 191, 193, 195], 148, 89), ([292, 294, 296, 298, 300, 302, 304, 306, 308, 310, 312, 314, 316], 267, 93), ([211, 213, 215, 217, 219, 221], 199, 90), ([259, 261, 263], 249, 92), ([133, 135, 137, 139, 141, 143], 112, 88), ([441, 443, 445, 447, 449], 431, 98), ([362, 364, 366, 368, 370, 372], 351, 95), ([239, 241, 243, 245], 225, 91), ([419, 421, 423, 425, 427], 405, 97), ([335, 337, 339, 341, 343, 345, 347], 321, 94), ([467, 469, 471, 473, 475, 477, 479, 481, 483, 485, 487, 489, 491, 493], 104, 87), ([1237, 1239, 1241, 1243, 1245, 1247, 1249, 1251, 1253, 1255, 1257, 1259, 1261, 1263, 1265, 1267, 1269, 1271, 1273, 1275, 1277, 1279, 1281, 1283, 1285, 1287, 1289, 1291, 1293, 1295, 1297, 1299, 1301, 1303, 1305, 1307, 1309, 1311, 1313, 1315, 1317, 1319, 1321, 1323, 1325, 1327, 1329, 1331, 1333, 1335, 1337, 1339, 1341, 1343], 1178, 99)]
def xTy : List (Nat → FieldType) := [tyX0, tyX1, tyX2, tyX3, tyX4, tyX5, tyX6, tyX7, tyX8, tyX9, tyX10, tyX11, tyX12]
def xAp : Nat × Nat × Nat := (146, 319, 452)
def xOp : Nat × Nat := (109, 110)
def xS0 : List Cond := lw_tbl
theorem xSi_0 : ∀ w ∈ xS0, w ∈ lw_tbl := fun _ h => h
def xS1 : List Cond := xS0.drop 64
theorem xSi_1 : ∀ w ∈ xS1, w ∈ lw_tbl := fun w h => xSi_0 w (List.mem_of_mem_drop h)
def xS2 : List Cond := xS1.drop 64
theorem xSi_2 : ∀ w ∈ xS2, w ∈ lw_tbl := fun w h => xSi_1 w (List.mem_of_mem_drop h)
def xS3 : List Cond := xS2.drop 64
theorem xSi_3 : ∀ w ∈ xS3, w ∈ lw_tbl := fun w h => xSi_2 w (List.mem_of_mem_drop h)
def xS4 : List Cond := xS3.drop 64
theorem xSi_4 : ∀ w ∈ xS4, w ∈ lw_tbl := fun w h => xSi_3 w (List.mem_of_mem_drop h)
def xS5 : List Cond := xS4.drop 64
theorem xSi_5 : ∀ w ∈ xS5, w ∈ lw_tbl := fun w h => xSi_4 w (List.mem_of_mem_drop h)
def xS6 : List Cond := xS5.drop 64
theorem xSi_6 : ∀ w ∈ xS6, w ∈ lw_tbl := fun w h => xSi_5 w (List.mem_of_mem_drop h)
def xS7 : List Cond := xS6.drop 64
theorem xSi_7 : ∀ w ∈ xS7, w ∈ lw_tbl := fun w h => xSi_6 w (List.mem_of_mem_drop h)
def xS8 : List Cond := xS7.drop 64
theorem xSi_8 : ∀ w ∈ xS8, w ∈ lw_tbl := fun w h => xSi_7 w (List.mem_of_mem_drop h)
def xS9 : List Cond := xS8.drop 64
theorem xSi_9 : ∀ w ∈ xS9, w ∈ lw_tbl := fun w h => xSi_8 w (List.mem_of_mem_drop h)
def xS10 : List Cond := xS9.drop 64
theorem xSi_10 : ∀ w ∈ xS10, w ∈ lw_tbl := fun w h => xSi_9 w (List.mem_of_mem_drop h)
def xS11 : List Cond := xS10.drop 64
theorem xSi_11 : ∀ w ∈ xS11, w ∈ lw_tbl := fun w h => xSi_10 w (List.mem_of_mem_drop h)
def xS12 : List Cond := xS11.drop 64
theorem xSi_12 : ∀ w ∈ xS12, w ∈ lw_tbl := fun w h => xSi_11 w (List.mem_of_mem_drop h)
def xS13 : List Cond := xS12.drop 64
theorem xSi_13 : ∀ w ∈ xS13, w ∈ lw_tbl := fun w h => xSi_12 w (List.mem_of_mem_drop h)
def xS14 : List Cond := xS13.drop 64
theorem xSi_14 : ∀ w ∈ xS14, w ∈ lw_tbl := fun w h => xSi_13 w (List.mem_of_mem_drop h)
def xS15 : List Cond := xS14.drop 64
theorem xSi_15 : ∀ w ∈ xS15, w ∈ lw_tbl := fun w h => xSi_14 w (List.mem_of_mem_drop h)
def xS16 : List Cond := xS15.drop 64
theorem xSi_16 : ∀ w ∈ xS16, w ∈ lw_tbl := fun w h => xSi_15 w (List.mem_of_mem_drop h)
def xS17 : List Cond := xS16.drop 64
theorem xSi_17 : ∀ w ∈ xS17, w ∈ lw_tbl := fun w h => xSi_16 w (List.mem_of_mem_drop h)
def xS18 : List Cond := xS17.drop 64
theorem xSi_18 : ∀ w ∈ xS18, w ∈ lw_tbl := fun w h => xSi_17 w (List.mem_of_mem_drop h)
def xS19 : List Cond := xS18.drop 64
theorem xSi_19 : ∀ w ∈ xS19, w ∈ lw_tbl := fun w h => xSi_18 w (List.mem_of_mem_drop h)
def xS20 : List Cond := xS19.drop 64
theorem xSi_20 : ∀ w ∈ xS20, w ∈ lw_tbl := fun w h => xSi_19 w (List.mem_of_mem_drop h)
def xS21 : List Cond := xS20.drop 64
theorem xSi_21 : ∀ w ∈ xS21, w ∈ lw_tbl := fun w h => xSi_20 w (List.mem_of_mem_drop h)
def xS22 : List Cond := xS21.drop 64
theorem xSi_22 : ∀ w ∈ xS22, w ∈ lw_tbl := fun w h => xSi_21 w (List.mem_of_mem_drop h)
def xS23 : List Cond := xS22.drop 64
theorem xSi_23 : ∀ w ∈ xS23, w ∈ lw_tbl := fun w h => xSi_22 w (List.mem_of_mem_drop h)
def xS24 : List Cond := xS23.drop 64
theorem xSi_24 : ∀ w ∈ xS24, w ∈ lw_tbl := fun w h => xSi_23 w (List.mem_of_mem_drop h)
def xS25 : List Cond := xS24.drop 64
theorem xSi_25 : ∀ w ∈ xS25, w ∈ lw_tbl := fun w h => xSi_24 w (List.mem_of_mem_drop h)
def xS26 : List Cond := xS25.drop 64
theorem xSi_26 : ∀ w ∈ xS26, w ∈ lw_tbl := fun w h => xSi_25 w (List.mem_of_mem_drop h)
def xS27 : List Cond := xS26.drop 64
theorem xSi_27 : ∀ w ∈ xS27, w ∈ lw_tbl := fun w h => xSi_26 w (List.mem_of_mem_drop h)
/-- the words by sixty-fours -/
def xSl : List (List Cond) := [xS0, xS1, xS2, xS3, xS4, xS5, xS6, xS7, xS8, xS9, xS10, xS11, xS12, xS13, xS14, xS15, xS16, xS17, xS18, xS19, xS20, xS21, xS22, xS23, xS24, xS25, xS26, xS27]
def xgt (p : Nat) : Option Cond := match xSl[p / 64]? with
  | some l => l[p % 64]?
  | none => none
theorem xSl_in : ∀ l ∈ xSl, ∀ w ∈ l, w ∈ lw_tbl := List.forall_mem_cons.mpr ⟨xSi_0, List.forall_mem_cons.mpr ⟨xSi_1, List.forall_mem_cons.mpr ⟨xSi_2, List.forall_mem_cons.mpr ⟨xSi_3, List.forall_mem_cons.mpr ⟨xSi_4, List.forall_mem_cons.mpr ⟨xSi_5, List.forall_mem_cons.mpr ⟨xSi_6, List.forall_mem_cons.mpr ⟨xSi_7, List.forall_mem_cons.mpr ⟨xSi_8, List.forall_mem_cons.mpr ⟨xSi_9, List.forall_mem_cons.mpr ⟨xSi_10, List.forall_mem_cons.mpr ⟨xSi_11, List.forall_mem_cons.mpr ⟨xSi_12, List.forall_mem_cons.mpr ⟨xSi_13, List.forall_mem_cons.mpr ⟨xSi_14, List.forall_mem_cons.mpr ⟨xSi_15, List.forall_mem_cons.mpr ⟨xSi_16, List.forall_mem_cons.mpr ⟨xSi_17, List.forall_mem_cons.mpr ⟨xSi_18, List.forall_mem_cons.mpr ⟨xSi_19, List.forall_mem_cons.mpr ⟨xSi_20, List.forall_mem_cons.mpr ⟨xSi_21, List.forall_mem_cons.mpr ⟨xSi_22, List.forall_mem_cons.mpr ⟨xSi_23, List.forall_mem_cons.mpr ⟨xSi_24, List.forall_mem_cons.mpr ⟨xSi_25, List.forall_mem_cons.mpr ⟨xSi_26, List.forall_mem_cons.mpr ⟨xSi_27, fun _ h => absurd h List.not_mem_nil⟩⟩⟩⟩⟩⟩⟩⟩⟩⟩⟩⟩⟩⟩⟩⟩⟩⟩⟩⟩⟩⟩⟩⟩⟩⟩⟩⟩
end
section
/-! every method's code is its bytes: by deciding, a method a row -/
def xil : Instr → Nat
  | .bipush _ | .iload _ | .istore _ | .aload _ | .astore _ | .lload _ | .lstore _ | .ldc _ | .newarray _ => 2
  | .sipush _ | .ldc_w _ | .ldc2_w _ | .iinc _ _ | .getfield _ | .putfield _ | .getstatic _ | .invokevirtual _ | .invokespecial _ | .invokestatic _ | .new _ | .goto _ | .if_icmp _ _ | .ifCond _ _ => 3
  | _ => 1
abbrev xNt : Type := MethodName × ByteArray × Option FieldType × Nat × Nat × Nat × Nat
def xdc (b : ByteArray) (c : xK) : Bool := c.all fun ch => ch.all fun q => match decode b q.1 with
  | .ok (i, n) => decide (i = q.2) && (match i with
    | .tableswitch _ _ _ _ => true
    | .lookupswitch _ _ => true
    | _ => Nat.beq n (xil i))
  | .error _ => false
theorem xdc_split {b : ByteArray} {c : xK} (n : Nat) (h1 : xdc b (c.take n) = true) (h2 : xdc b (c.drop n) = true) : xdc b c = true := by
  unfold xdc at h1 h2 ⊢
  rw [← List.take_append_drop n c, List.all_append, h1, h2]
  rfl
set_option maxRecDepth 100000 in
theorem xd_0 : xdc prog_2_method_1_code k0 = true := by decide +kernel
set_option maxRecDepth 100000 in
theorem xd_1 : xdc prog_2_method_2_code k1 = true := by decide +kernel
set_option maxRecDepth 100000 in
theorem xd_2 : xdc prog_2_method_3_code k2 = true := by decide +kernel
set_option maxRecDepth 100000 in
theorem xd_3 : xdc prog_2_method_4_code k3 = true := by decide +kernel
set_option maxRecDepth 100000 in
theorem xd_4 : xdc prog_2_method_5_code k4 = true := by decide +kernel
set_option maxRecDepth 100000 in
theorem xd_5 : xdc prog_3_method_1_code k5 = true := by decide +kernel
set_option maxRecDepth 100000 in
theorem xd_6 : xdc prog_3_method_2_code k6 = true := by decide +kernel
set_option maxRecDepth 100000 in
theorem xd_7 : xdc prog_3_method_3_code k7 = true := by decide +kernel
set_option maxRecDepth 100000 in
theorem xd_8 : xdc prog_3_method_4_code k8 = true := by decide +kernel
set_option maxRecDepth 100000 in
theorem xd_9 : xdc prog_3_method_5_code k9 = true := by decide +kernel
set_option maxRecDepth 100000 in
theorem xd_10 : xdc prog_3_method_6_code k10 = true := by decide +kernel
set_option maxRecDepth 100000 in
theorem xd_11 : xdc prog_3_method_7_code k11 = true := by decide +kernel
set_option maxRecDepth 100000 in
theorem xd_12 : xdc prog_3_method_8_code k12 = true := by decide +kernel
set_option maxRecDepth 100000 in
theorem xd_13 : xdc prog_3_method_9_code k13 = true := by decide +kernel
set_option maxRecDepth 100000 in
theorem xd_14 : xdc prog_3_method_10_code k14 = true := by decide +kernel
set_option maxRecDepth 100000 in
theorem xd_15 : xdc prog_3_method_11_code k15 = true := by decide +kernel
set_option maxRecDepth 100000 in
theorem xd_16 : xdc prog_3_method_12_code k16 = true := by decide +kernel
set_option maxRecDepth 100000 in
theorem xd_17 : xdc prog_3_method_13_code k17 = true := by decide +kernel
set_option maxRecDepth 100000 in
theorem xd_18 : xdc prog_3_method_14_code k18 = true := by decide +kernel
set_option maxRecDepth 100000 in
theorem xd_19 : xdc prog_3_method_15_code k19 = true := by decide +kernel
set_option maxRecDepth 100000 in
theorem xd_20 : xdc prog_3_method_16_code k20 = true := by decide +kernel
set_option maxRecDepth 100000 in
theorem xd_21 : xdc prog_3_method_17_code k21 = true := by decide +kernel
set_option maxRecDepth 100000 in
theorem xd_22 : xdc prog_3_method_18_code k22 = true := by decide +kernel
set_option maxRecDepth 100000 in
theorem xd_23 : xdc prog_4_method_1_code k23 = true := by decide +kernel
set_option maxRecDepth 100000 in
theorem xd_24 : xdc prog_4_method_2_code k24 = true := by decide +kernel
set_option maxRecDepth 100000 in
theorem xd_25 : xdc prog_4_method_3_code k25 = true := by decide +kernel
set_option maxRecDepth 100000 in
theorem xd_26 : xdc prog_4_method_4_code k26 = true := by decide +kernel
set_option maxRecDepth 100000 in
theorem xd_27 : xdc prog_4_method_5_code k27 = true := by decide +kernel
set_option maxRecDepth 100000 in
theorem xd_28 : xdc prog_4_method_6_code k28 = true := by decide +kernel
set_option maxRecDepth 100000 in
theorem xd_29 : xdc prog_4_method_7_code k29 = true := by decide +kernel
set_option maxRecDepth 100000 in
theorem xd_30 : xdc prog_4_method_8_code k30 = true := by decide +kernel
set_option maxRecDepth 100000 in
theorem xd_31 : xdc prog_4_method_9_code k31 = true := by decide +kernel
set_option maxRecDepth 100000 in
theorem xd_32 : xdc prog_4_method_10_code k32 = true := by decide +kernel
set_option maxRecDepth 100000 in
theorem xd_33 : xdc prog_4_method_11_code k33 = true := by decide +kernel
set_option maxRecDepth 100000 in
theorem xd_34 : xdc prog_4_method_12_code k34 = true := by decide +kernel
set_option maxRecDepth 100000 in
theorem xd_35 : xdc prog_4_method_13_code k35 = true := by decide +kernel
set_option maxRecDepth 100000 in
theorem xd_36 : xdc prog_4_method_14_code k36 = true := by decide +kernel
set_option maxRecDepth 100000 in
theorem xd_37 : xdc prog_4_method_15_code k37 = true := by decide +kernel
set_option maxRecDepth 100000 in
theorem xd_38 : xdc prog_4_method_16_code k38 = true := by decide +kernel
set_option maxRecDepth 100000 in
theorem xd_39 : xdc prog_5_method_1_code k39 = true := by decide +kernel
set_option maxRecDepth 100000 in
theorem xd_40 : xdc prog_5_method_2_code k40 = true := by decide +kernel
set_option maxRecDepth 100000 in
theorem xd_41 : xdc prog_5_method_3_code k41 = true := by decide +kernel
set_option maxRecDepth 100000 in
theorem xd_42 : xdc prog_5_method_4_code k42 = true := by decide +kernel
set_option maxRecDepth 100000 in
theorem xd_43 : xdc prog_5_method_5_code k43 = true := by decide +kernel
set_option maxRecDepth 100000 in
theorem xd_44 : xdc prog_5_method_6_code k44 = true := by decide +kernel
set_option maxRecDepth 100000 in
theorem xd_45 : xdc prog_5_method_7_code k45 = true := by decide +kernel
set_option maxRecDepth 100000 in
theorem xd_46 : xdc prog_5_method_8_code k46 = true := by decide +kernel
set_option maxRecDepth 100000 in
theorem xd_47 : xdc prog_5_method_9_code k47 = true := by decide +kernel
set_option maxRecDepth 100000 in
theorem xd_48 : xdc prog_6_method_1_code k48 = true := by decide +kernel
set_option maxRecDepth 100000 in
theorem xd_49 : xdc prog_6_method_2_code k49 = true := by decide +kernel
set_option maxRecDepth 100000 in
theorem xd_50 : xdc prog_6_method_3_code k50 = true := by decide +kernel
set_option maxRecDepth 100000 in
theorem xd_51 : xdc prog_6_method_4_code k51 = true := by decide +kernel
set_option maxRecDepth 100000 in
theorem xd_52 : xdc prog_6_method_5_code k52 = true := by decide +kernel
set_option maxRecDepth 100000 in
theorem xd_53 : xdc prog_6_method_6_code k53 = true := by decide +kernel
set_option maxRecDepth 100000 in
theorem xd_54 : xdc prog_6_method_7_code k54 = true := by decide +kernel
set_option maxRecDepth 100000 in
theorem xd_55 : xdc prog_6_method_8_code k55 = true := by decide +kernel
set_option maxRecDepth 100000 in
theorem xd_56 : xdc prog_6_method_9_code k56 = true := by decide +kernel
set_option maxRecDepth 100000 in
theorem xd_57 : xdc prog_7_method_1_code k57 = true := by decide +kernel
set_option maxRecDepth 100000 in
theorem xd_58 : xdc prog_7_method_2_code k58 = true := by decide +kernel
set_option maxRecDepth 100000 in
theorem xd_59 : xdc prog_7_method_3_code k59 = true := by decide +kernel
set_option maxRecDepth 100000 in
theorem xd_60 : xdc prog_7_method_4_code k60 = true := by decide +kernel
set_option maxRecDepth 100000 in
theorem xd_61 : xdc prog_7_method_5_code k61 = true := by decide +kernel
set_option maxRecDepth 100000 in
theorem xd_62 : xdc prog_7_method_6_code k62 = true := by decide +kernel
set_option maxRecDepth 100000 in
theorem xd_63 : xdc prog_7_method_7_code k63 = true := by decide +kernel
set_option maxRecDepth 100000 in
theorem xd_64 : xdc prog_7_method_8_code k64 = true := by decide +kernel
set_option maxRecDepth 100000 in
theorem xd_65 : xdc prog_8_method_1_code k65 = true := by decide +kernel
set_option maxRecDepth 100000 in
theorem xd_66 : xdc prog_8_method_2_code k66 = true := by decide +kernel
set_option maxRecDepth 100000 in
theorem xd_67 : xdc prog_8_method_3_code k67 = true := by decide +kernel
set_option maxRecDepth 100000 in
theorem xd_68 : xdc prog_8_method_4_code k68 = true := by decide +kernel
set_option maxRecDepth 100000 in
theorem xd_69 : xdc prog_8_method_5_code k69 = true := by decide +kernel
set_option maxRecDepth 100000 in
theorem xd_70 : xdc prog_8_method_6_code k70 = true := by decide +kernel
set_option maxRecDepth 100000 in
theorem xd_71 : xdc prog_8_method_7_code k71 = true := by decide +kernel
set_option maxRecDepth 100000 in
theorem xd_72 : xdc prog_8_method_8_code k72 = true := by decide +kernel
set_option maxRecDepth 100000 in
theorem xd_73 : xdc prog_8_method_9_code k73 = true := by decide +kernel
set_option maxRecDepth 100000 in
theorem xd_74 : xdc prog_8_method_10_code k74 = true := by decide +kernel
set_option maxRecDepth 100000 in
theorem xd_75 : xdc prog_8_method_11_code k75 = true := by decide +kernel
set_option maxRecDepth 100000 in
theorem xd_76 : xdc prog_8_method_12_code k76 = true := by decide +kernel
set_option maxRecDepth 100000 in
theorem xd_77 : xdc prog_8_method_13_code k77 = true := by decide +kernel
set_option maxRecDepth 100000 in
theorem xd_78 : xdc prog_8_method_14_code k78 = true := by decide +kernel
set_option maxRecDepth 100000 in
theorem xd_79 : xdc prog_8_method_15_code k79 = true := by decide +kernel
set_option maxRecDepth 100000 in
theorem xd_80 : xdc prog_9_method_1_code k80 = true := by decide +kernel
set_option maxRecDepth 100000 in
theorem xd_81 : xdc prog_9_method_2_code k81 = true := by decide +kernel
set_option maxRecDepth 100000 in
theorem xd_82 : xdc prog_9_method_3_code k82 = true := by decide +kernel
set_option maxRecDepth 100000 in
theorem xd_83 : xdc prog_9_method_4_code k83 = true := by decide +kernel
set_option maxRecDepth 100000 in
theorem xd_84 : xdc prog_9_method_5_code k84 = true := by decide +kernel
set_option maxRecDepth 100000 in
theorem xd_85 : xdc prog_9_method_6_code k85 = true := by decide +kernel
set_option maxRecDepth 100000 in
theorem xd_86 : xdc prog_9_method_7_code k86 = true := by decide +kernel
set_option maxRecDepth 100000 in
theorem xd_87 : xdc prog_9_method_8_code k87 = true := by decide +kernel
set_option maxRecDepth 100000 in
theorem xd_88 : xdc prog_9_method_9_code k88 = true := by decide +kernel
set_option maxRecDepth 100000 in
theorem xd_89 : xdc prog_9_method_10_code k89 = true := by decide +kernel
set_option maxRecDepth 100000 in
theorem xd_90 : xdc prog_9_method_11_code k90 = true := by decide +kernel
set_option maxRecDepth 100000 in
theorem xd_91 : xdc prog_10_method_1_code k91 = true := by decide +kernel
set_option maxRecDepth 100000 in
theorem xd_92 : xdc prog_10_method_2_code k92 = true := by decide +kernel
set_option maxRecDepth 100000 in
theorem xd_93 : xdc prog_10_method_3_code k93 = true := by decide +kernel
set_option maxRecDepth 100000 in
theorem xd_94 : xdc prog_10_method_4_code k94 = true := by decide +kernel
set_option maxRecDepth 100000 in
theorem xd_95 : xdc prog_10_method_5_code k95 = true := by decide +kernel
set_option maxRecDepth 100000 in
theorem xd_96 : xdc prog_10_method_6_code k96 = true := by decide +kernel
set_option maxRecDepth 100000 in
theorem xd_97 : xdc prog_10_method_7_code k97 = true := by decide +kernel
set_option maxRecDepth 100000 in
theorem xd_98 : xdc prog_10_method_8_code k98 = true := by decide +kernel
set_option maxRecDepth 100000 in
theorem xd_99 : xdc prog_10_method_9_code k99 = true := by decide +kernel
set_option maxRecDepth 100000 in
theorem xd_100 : xdc prog_10_method_10_code k100 = true := by decide +kernel
set_option maxRecDepth 100000 in
theorem xd_101 : xdc prog_10_method_11_code k101 = true := by decide +kernel
set_option maxRecDepth 100000 in
theorem xd_102 : xdc prog_10_method_12_code k102 = true := by decide +kernel
set_option maxRecDepth 100000 in
theorem xd_103 : xdc prog_10_method_13_code k103 = true := by decide +kernel
set_option maxRecDepth 100000 in
theorem xd_104 : xdc prog_10_method_14_code k104 = true := by decide +kernel
set_option maxRecDepth 100000 in
theorem xd_105 : xdc prog_10_method_15_code k105 = true := by decide +kernel
set_option maxRecDepth 100000 in
theorem xd_106 : xdc prog_10_method_16_code k106 = true := by decide +kernel
set_option maxRecDepth 100000 in
theorem xd_107 : xdc prog_11_method_1_code k107 = true := by decide +kernel
set_option maxRecDepth 100000 in
theorem xd_108 : xdc prog_11_method_2_code k108 = true := by decide +kernel
set_option maxRecDepth 100000 in
theorem xd_109 : xdc prog_11_method_3_code k109 = true := by decide +kernel
set_option maxRecDepth 100000 in
theorem xd_110 : xdc prog_11_method_4_code k110 = true := by decide +kernel
set_option maxRecDepth 100000 in
theorem xd_111 : xdc prog_11_method_5_code k111 = true := by decide +kernel
set_option maxRecDepth 100000 in
theorem xd_112 : xdc prog_11_method_6_code k112 = true := by decide +kernel
set_option maxRecDepth 100000 in
theorem xd_113 : xdc prog_11_method_7_code k113 = true := by decide +kernel
set_option maxRecDepth 100000 in
theorem xd_114 : xdc prog_11_method_8_code k114 = true := by decide +kernel
set_option maxRecDepth 100000 in
theorem xd_115 : xdc prog_11_method_9_code k115 = true := by decide +kernel
set_option maxRecDepth 100000 in
theorem xd_116 : xdc prog_11_method_10_code k116 = true := by decide +kernel
set_option maxRecDepth 100000 in
theorem xd_117 : xdc prog_12_method_1_code k117 = true := by decide +kernel
set_option maxRecDepth 100000 in
theorem xd_118 : xdc prog_12_method_2_code k118 = true := by decide +kernel
set_option maxRecDepth 100000 in
theorem xd_119 : xdc prog_12_method_3_code k119 = true := by decide +kernel
set_option maxRecDepth 100000 in
theorem xd_120 : xdc prog_12_method_4_code k120 = true := by decide +kernel
set_option maxRecDepth 100000 in
theorem xd_121 : xdc prog_12_method_5_code k121 = true := by decide +kernel
set_option maxRecDepth 100000 in
theorem xd_122 : xdc prog_12_method_6_code k122 = true := by decide +kernel
set_option maxRecDepth 100000 in
theorem xd_123 : xdc prog_12_method_7_code k123 = true := by decide +kernel
set_option maxRecDepth 100000 in
theorem xd_124 : xdc prog_1_method_1_code k124 = true := by decide +kernel
set_option maxRecDepth 100000 in
theorem xd_125 : xdc prog_1_method_2_code k125 = true := by decide +kernel
set_option maxRecDepth 100000 in
theorem xd_126 : xdc prog_1_method_3_code k126 = true := by decide +kernel
set_option maxRecDepth 100000 in
theorem xd_127 : xdc prog_1_method_4_code k127 = true := by decide +kernel
set_option maxRecDepth 100000 in
theorem xd_128 : xdc prog_1_method_5_code k128 = true := by decide +kernel
set_option maxRecDepth 100000 in
theorem xd_129 : xdc prog_1_method_6_code k129 = true := by decide +kernel
set_option maxRecDepth 100000 in
theorem xd_130 : xdc prog_1_method_7_code k130 = true := by decide +kernel
set_option maxRecDepth 100000 in
theorem xd_131 : xdc prog_1_method_8_code k131 = true := by decide +kernel
set_option maxRecDepth 100000 in
theorem xd_132 : xdc prog_1_method_9_code k132 = true := by decide +kernel
set_option maxRecDepth 100000 in
theorem xd_133 : xdc prog_1_method_10_code k133 = true := by decide +kernel
set_option maxRecDepth 100000 in
theorem xd_134 : xdc prog_1_method_11_code k134 = true := by decide +kernel
set_option maxRecDepth 100000 in
theorem xd_135 : xdc prog_1_method_12_code k135 = true := by decide +kernel
set_option maxRecDepth 100000 in
theorem xd_136 : xdc prog_1_method_13_code k136 = true := by decide +kernel
set_option maxRecDepth 100000 in
theorem xd_137 : xdc prog_1_method_14_code k137 = true := by decide +kernel
set_option maxRecDepth 100000 in
theorem xd_138 : xdc prog_1_method_15_code k138 = true := by decide +kernel
set_option maxRecDepth 100000 in
theorem xd_139 : xdc prog_1_method_16_code k139 = true := by decide +kernel
set_option maxRecDepth 100000 in
theorem xd_140 : xdc prog_1_method_17_code k140 = true := by decide +kernel
set_option maxRecDepth 100000 in
theorem xd_141 : xdc prog_1_method_18_code k141 = true := by decide +kernel
set_option maxRecDepth 100000 in
theorem xd_142 : xdc prog_1_method_19_code k142 = true := by decide +kernel
set_option maxRecDepth 100000 in
theorem xd_143 : xdc prog_1_method_20_code k143 = true := by decide +kernel
set_option maxRecDepth 100000 in
theorem xd_144 : xdc prog_1_method_21_code k144 = true := by decide +kernel
set_option maxRecDepth 100000 in
theorem xd_145 : xdc prog_1_method_22_code k145 = true := by decide +kernel
set_option maxRecDepth 100000 in
theorem xd_146 : xdc prog_1_method_23_code k146 = true := by decide +kernel
set_option maxRecDepth 100000 in
theorem xd_147 : xdc prog_1_method_24_code k147 = true := by decide +kernel
set_option maxRecDepth 100000 in
theorem xd_148 : xdc prog_1_method_25_code k148 = true := by decide +kernel
set_option maxRecDepth 100000 in
theorem xd_149 : xdc prog_1_method_26_code k149 = true := by decide +kernel
set_option maxRecDepth 100000 in
theorem xd_150 : xdc prog_1_method_27_code k150 = true := by decide +kernel
set_option maxRecDepth 100000 in
theorem xd_151 : xdc prog_1_method_28_code k151 = true := by decide +kernel
set_option maxRecDepth 100000 in
theorem xd_152 : xdc prog_1_method_29_code k152 = true := by decide +kernel
set_option maxRecDepth 100000 in
theorem xd_153 : xdc prog_1_method_30_code k153 = true := by decide +kernel
set_option maxRecDepth 100000 in
theorem xd_154 : xdc prog_1_method_31_code k154 = true := by decide +kernel
set_option maxRecDepth 100000 in
theorem xd_155 : xdc prog_1_method_32_code k155 = true := by decide +kernel
set_option maxRecDepth 100000 in
theorem xd_156 : xdc prog_1_method_33_code k156 = true := by decide +kernel
set_option maxRecDepth 100000 in
theorem xd_157 : xdc prog_1_method_34_code k157 = true := by decide +kernel
set_option maxRecDepth 100000 in
theorem xd_158 : xdc prog_1_method_35_code k158 = true := by decide +kernel
set_option maxRecDepth 100000 in
theorem xd_159 : xdc prog_1_method_36_code k159 = true := by decide +kernel
set_option maxRecDepth 100000 in
theorem xd_160 : xdc prog_1_method_37_code k160 = true := by decide +kernel
set_option maxRecDepth 100000 in
theorem xd_161 : xdc prog_1_method_38_code k161 = true := by decide +kernel
set_option maxRecDepth 100000 in
theorem xd_162 : xdc prog_1_method_39_code k162 = true := by decide +kernel
set_option maxRecDepth 100000 in
theorem xd_163 : xdc prog_1_method_40_code k163 = true := by decide +kernel
set_option maxRecDepth 100000 in
theorem xd_164 : xdc prog_1_method_41_code k164 = true := by decide +kernel
set_option maxRecDepth 100000 in
theorem xd_165 : xdc prog_1_method_42_code k165 = true := by decide +kernel
set_option maxRecDepth 100000 in
theorem xd_166 : xdc prog_1_method_43_code k166 = true := by decide +kernel
set_option maxRecDepth 100000 in
theorem xd_167 : xdc prog_1_method_44_code k167 = true := by decide +kernel
set_option maxRecDepth 100000 in
theorem xd_168 : xdc prog_1_method_45_code k168 = true := by decide +kernel
set_option maxRecDepth 100000 in
theorem xd_169 : xdc prog_1_method_46_code k169 = true := by decide +kernel
set_option maxRecDepth 100000 in
theorem xd_170 : xdc prog_1_method_47_code k170 = true := by decide +kernel
set_option maxRecDepth 100000 in
theorem xd_171 : xdc prog_1_method_48_code k171 = true := by decide +kernel
set_option maxRecDepth 100000 in
theorem xd_172 : xdc prog_1_method_49_code k172 = true := by decide +kernel
set_option maxRecDepth 100000 in
theorem xd_173 : xdc prog_1_method_50_code k173 = true := by decide +kernel
set_option maxRecDepth 100000 in
theorem xd_174 : xdc prog_14_method_1_code k174 = true := by decide +kernel
set_option maxRecDepth 100000 in
theorem xd_175 : xdc prog_14_method_2_code k175 = true := by decide +kernel
set_option maxRecDepth 100000 in
theorem xd_176 : xdc prog_14_method_3_code k176 = true := by decide +kernel
set_option maxRecDepth 100000 in
theorem xd_177 : xdc prog_14_method_4_code k177 = true := by decide +kernel
set_option maxRecDepth 100000 in
theorem xd_178 : xdc prog_14_method_5_code k178 = true := by decide +kernel
set_option maxRecDepth 100000 in
theorem xd_179 : xdc prog_14_method_6_code k179 = true := by decide +kernel
set_option maxRecDepth 100000 in
theorem xd_180 : xdc prog_14_method_7_code k180 = true := by decide +kernel
set_option maxRecDepth 100000 in
theorem xd_181 : xdc prog_14_method_8_code k181 = true := by decide +kernel
set_option maxRecDepth 100000 in
theorem xd_182 : xdc prog_14_method_9_code k182 = true := by decide +kernel
set_option maxRecDepth 100000 in
theorem xd_183 : xdc prog_14_method_10_code k183 = true := by decide +kernel
set_option maxRecDepth 100000 in
theorem xd_184 : xdc prog_14_method_11_code k184 = true := by decide +kernel
set_option maxRecDepth 100000 in
theorem xd_185 : xdc prog_14_method_12_code k185 = true := by decide +kernel
set_option maxRecDepth 100000 in
theorem xd_186 : xdc prog_14_method_13_code k186 = true := by decide +kernel
set_option maxRecDepth 100000 in
theorem xd_187 : xdc prog_14_method_14_code k187 = true := by decide +kernel
set_option maxRecDepth 100000 in
theorem xd_188 : xdc prog_14_method_15_code k188 = true := by decide +kernel
set_option maxRecDepth 100000 in
theorem xd_189 : xdc prog_14_method_16_code k189 = true := by decide +kernel
set_option maxRecDepth 100000 in
theorem xd_190 : xdc prog_14_method_17_code k190 = true := by decide +kernel
set_option maxRecDepth 100000 in
theorem xd_191 : xdc prog_14_method_18_code k191 = true := by decide +kernel
set_option maxRecDepth 100000 in
theorem xd_192 : xdc prog_14_method_19_code k192 = true := by decide +kernel
set_option maxRecDepth 100000 in
theorem xd_193 : xdc prog_14_method_20_code k193 = true := by decide +kernel
set_option maxRecDepth 100000 in
theorem xd_194 : xdc prog_14_method_21_code k194 = true := by decide +kernel
set_option maxRecDepth 100000 in
theorem xd_195 : xdc prog_14_method_22_code k195 = true := by decide +kernel
set_option maxRecDepth 100000 in
theorem xd_196 : xdc prog_14_method_23_code k196 = true := by decide +kernel
set_option maxRecDepth 100000 in
theorem xd_197 : xdc prog_14_method_24_code k197 = true := by decide +kernel
set_option maxRecDepth 100000 in
theorem xd_198 : xdc prog_14_method_25_code k198 = true := by decide +kernel
set_option maxRecDepth 100000 in
theorem xd_199 : xdc prog_14_method_26_code k199 = true := by decide +kernel
set_option maxRecDepth 100000 in
theorem xd_200 : xdc prog_14_method_27_code k200 = true := by decide +kernel
set_option maxRecDepth 100000 in
theorem xd_201 : xdc prog_14_method_28_code k201 = true := by decide +kernel
set_option maxRecDepth 100000 in
theorem xd_202 : xdc prog_14_method_29_code k202 = true := by decide +kernel
set_option maxRecDepth 100000 in
theorem xd_203 : xdc prog_14_method_30_code k203 = true := by decide +kernel
set_option maxRecDepth 100000 in
theorem xd_204 : xdc prog_14_method_31_code k204 = true := by decide +kernel
set_option maxRecDepth 100000 in
theorem xd_205 : xdc prog_14_method_32_code k205 = true := by decide +kernel
set_option maxRecDepth 100000 in
theorem xd_206 : xdc prog_14_method_33_code k206 = true := by decide +kernel
set_option maxRecDepth 100000 in
theorem xd_207 : xdc prog_14_method_34_code k207 = true := by decide +kernel
set_option maxRecDepth 100000 in
theorem xd_208 : xdc prog_14_method_35_code k208 = true := by decide +kernel
set_option maxRecDepth 100000 in
theorem xd_209 : xdc prog_14_method_36_code k209 = true := by decide +kernel
set_option maxRecDepth 100000 in
theorem xd_210 : xdc prog_14_method_37_code k210 = true := by decide +kernel
set_option maxRecDepth 100000 in
theorem xd_211 : xdc prog_14_method_38_code k211 = true := by decide +kernel
set_option maxRecDepth 100000 in
theorem xd_212 : xdc prog_14_method_39_code k212 = true := by decide +kernel
set_option maxRecDepth 100000 in
theorem xd_213 : xdc prog_14_method_40_code k213 = true := by decide +kernel
set_option maxRecDepth 100000 in
theorem xd_214 : xdc prog_14_method_41_code k214 = true := by decide +kernel
set_option maxRecDepth 100000 in
theorem xd_215 : xdc prog_14_method_42_code k215 = true := by decide +kernel
set_option maxRecDepth 100000 in
theorem xd_216 : xdc prog_14_method_43_code k216 = true := by decide +kernel
set_option maxRecDepth 100000 in
theorem xd_217 : xdc prog_14_method_44_code k217 = true := by decide +kernel
set_option maxRecDepth 100000 in
theorem xd_218 : xdc prog_14_method_45_code k218 = true := by decide +kernel
set_option maxRecDepth 100000 in
theorem xd_219 : xdc prog_14_method_46_code k219 = true := by decide +kernel
set_option maxRecDepth 100000 in
theorem xd_220 : xdc prog_14_method_47_code k220 = true := by decide +kernel
set_option maxRecDepth 100000 in
theorem xd_221 : xdc prog_14_method_48_code k221 = true := by decide +kernel
set_option maxRecDepth 100000 in
theorem xd_222 : xdc prog_14_method_49_code k222 = true := by decide +kernel
set_option maxRecDepth 100000 in
theorem xd_223 : xdc prog_14_method_50_code k223 = true := by decide +kernel
set_option maxRecDepth 100000 in
theorem xd_224 : xdc prog_14_method_51_code k224 = true := by decide +kernel
set_option maxRecDepth 100000 in
theorem xd_225 : xdc prog_14_method_52_code k225 = true := by decide +kernel
set_option maxRecDepth 100000 in
theorem xd_226 : xdc prog_14_method_53_code k226 = true := by decide +kernel
set_option maxRecDepth 100000 in
theorem xd_227 : xdc prog_14_method_54_code k227 = true := by decide +kernel
set_option maxRecDepth 100000 in
theorem xd_228 : xdc prog_14_method_55_code k228 = true := by decide +kernel
set_option maxRecDepth 100000 in
theorem xd_229 : xdc prog_14_method_56_code k229 = true := by decide +kernel
set_option maxRecDepth 100000 in
theorem xd_230 : xdc prog_14_method_57_code k230 = true := by decide +kernel
set_option maxRecDepth 100000 in
theorem xd_231 : xdc prog_14_method_58_code k231 = true := by decide +kernel
set_option maxRecDepth 100000 in
theorem xd_232 : xdc prog_14_method_59_code k232 = true := by decide +kernel
set_option maxRecDepth 100000 in
theorem xd_233 : xdc prog_14_method_60_code k233 = true := by decide +kernel
set_option maxRecDepth 100000 in
theorem xd_234 : xdc prog_14_method_61_code k234 = true := by decide +kernel
set_option maxRecDepth 100000 in
theorem xd_235 : xdc prog_14_method_62_code k235 = true := by decide +kernel
set_option maxRecDepth 100000 in
theorem xd_236 : xdc prog_14_method_63_code k236 = true := by decide +kernel
set_option maxRecDepth 100000 in
theorem xd_237 : xdc prog_14_method_64_code k237 = true := by decide +kernel
set_option maxRecDepth 100000 in
theorem xd_238 : xdc prog_14_method_65_code k238 = true := by decide +kernel
set_option maxRecDepth 100000 in
theorem xd_239 : xdc prog_14_method_66_code k239 = true := by decide +kernel
set_option maxRecDepth 100000 in
theorem xd_240 : xdc prog_14_method_67_code k240 = true := by decide +kernel
set_option maxRecDepth 100000 in
theorem xd_241 : xdc prog_14_method_68_code k241 = true := by decide +kernel
set_option maxRecDepth 100000 in
theorem xd_242 : xdc prog_14_method_69_code k242 = true := by decide +kernel
set_option maxRecDepth 100000 in
theorem xd_243 : xdc prog_14_method_70_code k243 = true := by decide +kernel
set_option maxRecDepth 100000 in
theorem xd_244 : xdc prog_14_method_71_code k244 = true := by decide +kernel
set_option maxRecDepth 100000 in
theorem xd_245 : xdc prog_14_method_72_code k245 = true := by decide +kernel
set_option maxRecDepth 100000 in
theorem xd_246 : xdc prog_14_method_73_code k246 = true := by decide +kernel
set_option maxRecDepth 100000 in
theorem xd_247 : xdc prog_14_method_74_code k247 = true := by decide +kernel
set_option maxRecDepth 100000 in
theorem xd_248 : xdc prog_14_method_75_code k248 = true := by decide +kernel
set_option maxRecDepth 100000 in
theorem xd_249 : xdc prog_14_method_76_code k249 = true := by decide +kernel
set_option maxRecDepth 100000 in
theorem xd_250 : xdc prog_14_method_77_code k250 = true := by decide +kernel
set_option maxRecDepth 100000 in
theorem xd_251 : xdc prog_14_method_78_code k251 = true := by decide +kernel
set_option maxRecDepth 100000 in
theorem xd_252 : xdc prog_14_method_79_code k252 = true := by decide +kernel
set_option maxRecDepth 100000 in
theorem xd_253 : xdc prog_14_method_80_code k253 = true := by decide +kernel
set_option maxRecDepth 100000 in
theorem xd_254 : xdc prog_14_method_81_code k254 = true := by decide +kernel
set_option maxRecDepth 100000 in
theorem xd_255 : xdc prog_14_method_82_code k255 = true := by decide +kernel
set_option maxRecDepth 100000 in
theorem xd_256 : xdc prog_14_method_83_code k256 = true := by decide +kernel
set_option maxRecDepth 100000 in
theorem xd_257 : xdc prog_14_method_84_code k257 = true := by decide +kernel
set_option maxRecDepth 100000 in
theorem xd_258 : xdc prog_14_method_85_code k258 = true := by decide +kernel
set_option maxRecDepth 100000 in
theorem xd_259 : xdc prog_14_method_86_code k259 = true := by decide +kernel
set_option maxRecDepth 100000 in
theorem xd_260 : xdc prog_14_method_87_code k260 = true := by decide +kernel
set_option maxRecDepth 100000 in
theorem xd_261 : xdc prog_14_method_88_code k261 = true := by decide +kernel
set_option maxRecDepth 100000 in
theorem xd_262 : xdc prog_14_method_89_code k262 = true := by decide +kernel
set_option maxRecDepth 100000 in
theorem xd_263 : xdc prog_14_method_90_code k263 = true := by decide +kernel
set_option maxRecDepth 100000 in
theorem xd_264 : xdc prog_14_method_91_code k264 = true := by decide +kernel
set_option maxRecDepth 100000 in
theorem xd_265 : xdc prog_14_method_92_code k265 = true := by decide +kernel
set_option maxRecDepth 100000 in
theorem xd_266 : xdc prog_14_method_93_code k266 = true := by decide +kernel
set_option maxRecDepth 100000 in
theorem xd_267 : xdc prog_14_method_94_code k267 = true := by decide +kernel
set_option maxRecDepth 100000 in
theorem xd_268 : xdc prog_14_method_95_code k268 = true := by decide +kernel
set_option maxRecDepth 100000 in
theorem xd_269 : xdc prog_14_method_96_code k269 = true := by decide +kernel
set_option maxRecDepth 100000 in
theorem xd_270 : xdc prog_14_method_97_code k270 = true := by decide +kernel
set_option maxRecDepth 100000 in
theorem xd_271 : xdc prog_14_method_98_code k271 = true := by decide +kernel
set_option maxRecDepth 100000 in
theorem xd_272 : xdc prog_14_method_99_code k272 = true := by decide +kernel
set_option maxRecDepth 100000 in
theorem xd_273 : xdc prog_15_method_49_code k273 = true := by decide +kernel
set_option maxRecDepth 100000 in
theorem xd_274 : xdc prog_16_method_65_code k274 = true := by decide +kernel
set_option maxRecDepth 100000 in
theorem xd_275 : xdc prog_16_method_69_code k275 = true := by decide +kernel
set_option maxRecDepth 100000 in
theorem xd_276_0 : xdc code ((k276).take 4) = true := by decide +kernel
set_option maxRecDepth 100000 in
theorem xd_276_1 : xdc code (((k276).drop 4).take 4) = true := by decide +kernel
set_option maxRecDepth 100000 in
theorem xd_276_2 : xdc code ((((k276).drop 4).drop 4).take 4) = true := by decide +kernel
set_option maxRecDepth 100000 in
theorem xd_276_3 : xdc code (((((k276).drop 4).drop 4).drop 4).take 4) = true := by decide +kernel
set_option maxRecDepth 100000 in
theorem xd_276_4 : xdc code ((((((k276).drop 4).drop 4).drop 4).drop 4).take 4) = true := by decide +kernel
set_option maxRecDepth 100000 in
theorem xd_276_5 : xdc code (((((((k276).drop 4).drop 4).drop 4).drop 4).drop 4).take 4) = true := by decide +kernel
set_option maxRecDepth 100000 in
theorem xd_276_6 : xdc code ((((((((k276).drop 4).drop 4).drop 4).drop 4).drop 4).drop 4).take 4) = true := by decide +kernel
set_option maxRecDepth 100000 in
theorem xd_276_7 : xdc code (((((((((k276).drop 4).drop 4).drop 4).drop 4).drop 4).drop 4).drop 4).take 4) = true := by decide +kernel
set_option maxRecDepth 100000 in
theorem xd_276_8 : xdc code ((((((((((k276).drop 4).drop 4).drop 4).drop 4).drop 4).drop 4).drop 4).drop 4).take 4) = true := by decide +kernel
set_option maxRecDepth 100000 in
theorem xd_276_9 : xdc code (((((((((((k276).drop 4).drop 4).drop 4).drop 4).drop 4).drop 4).drop 4).drop 4).drop 4).take 4) = true := by decide +kernel
set_option maxRecDepth 100000 in
theorem xd_276_10 : xdc code ((((((((((((k276).drop 4).drop 4).drop 4).drop 4).drop 4).drop 4).drop 4).drop 4).drop 4).drop 4).take 4) = true := by decide +kernel
set_option maxRecDepth 100000 in
theorem xd_276_11 : xdc code (((((((((((((k276).drop 4).drop 4).drop 4).drop 4).drop 4).drop 4).drop 4).drop 4).drop 4).drop 4).drop 4).take 4) = true := by decide +kernel
set_option maxRecDepth 100000 in
theorem xd_276_12 : xdc code ((((((((((((((k276).drop 4).drop 4).drop 4).drop 4).drop 4).drop 4).drop 4).drop 4).drop 4).drop 4).drop 4).drop 4).take 4) = true := by decide +kernel
set_option maxRecDepth 100000 in
theorem xd_276_13 : xdc code (((((((((((((((k276).drop 4).drop 4).drop 4).drop 4).drop 4).drop 4).drop 4).drop 4).drop 4).drop 4).drop 4).drop 4).drop 4).take 4) = true := by decide +kernel
set_option maxRecDepth 100000 in
theorem xd_276_14 : xdc code ((((((((((((((((k276).drop 4).drop 4).drop 4).drop 4).drop 4).drop 4).drop 4).drop 4).drop 4).drop 4).drop 4).drop 4).drop 4).drop 4).take 4) = true := by decide +kernel
set_option maxRecDepth 100000 in
theorem xd_276_15 : xdc code (((((((((((((((((k276).drop 4).drop 4).drop 4).drop 4).drop 4).drop 4).drop 4).drop 4).drop 4).drop 4).drop 4).drop 4).drop 4).drop 4).drop 4).take 4) = true := by decide +kernel
set_option maxRecDepth 100000 in
theorem xd_276_16 : xdc code ((((((((((((((((((k276).drop 4).drop 4).drop 4).drop 4).drop 4).drop 4).drop 4).drop 4).drop 4).drop 4).drop 4).drop 4).drop 4).drop 4).drop 4).drop 4).take 4) = true := by decide +kernel
set_option maxRecDepth 100000 in
theorem xd_276_17 : xdc code (((((((((((((((((((k276).drop 4).drop 4).drop 4).drop 4).drop 4).drop 4).drop 4).drop 4).drop 4).drop 4).drop 4).drop 4).drop 4).drop 4).drop 4).drop 4).drop 4).take 4) = true := by decide +kernel
set_option maxRecDepth 100000 in
theorem xd_276_18 : xdc code ((((((((((((((((((((k276).drop 4).drop 4).drop 4).drop 4).drop 4).drop 4).drop 4).drop 4).drop 4).drop 4).drop 4).drop 4).drop 4).drop 4).drop 4).drop 4).drop 4).drop 4).take 4) = true := by decide +kernel
set_option maxRecDepth 100000 in
theorem xd_276_19 : xdc code (((((((((((((((((((((k276).drop 4).drop 4).drop 4).drop 4).drop 4).drop 4).drop 4).drop 4).drop 4).drop 4).drop 4).drop 4).drop 4).drop 4).drop 4).drop 4).drop 4).drop 4).drop 4).take 4) = true := by decide +kernel
set_option maxRecDepth 100000 in
theorem xd_276_20 : xdc code ((((((((((((((((((((((k276).drop 4).drop 4).drop 4).drop 4).drop 4).drop 4).drop 4).drop 4).drop 4).drop 4).drop 4).drop 4).drop 4).drop 4).drop 4).drop 4).drop 4).drop 4).drop 4).drop 4).take 4) = true := by decide +kernel
set_option maxRecDepth 100000 in
theorem xd_276_21 : xdc code (((((((((((((((((((((((k276).drop 4).drop 4).drop 4).drop 4).drop 4).drop 4).drop 4).drop 4).drop 4).drop 4).drop 4).drop 4).drop 4).drop 4).drop 4).drop 4).drop 4).drop 4).drop 4).drop 4).drop 4).take 4) = true := by decide +kernel
set_option maxRecDepth 100000 in
theorem xd_276_22 : xdc code (((((((((((((((((((((((k276).drop 4).drop 4).drop 4).drop 4).drop 4).drop 4).drop 4).drop 4).drop 4).drop 4).drop 4).drop 4).drop 4).drop 4).drop 4).drop 4).drop 4).drop 4).drop 4).drop 4).drop 4).drop 4) = true := by decide +kernel
theorem xd_276 : xdc code k276 = true := (xdc_split 4 xd_276_0 (xdc_split 4 xd_276_1 (xdc_split 4 xd_276_2 (xdc_split 4 xd_276_3 (xdc_split 4 xd_276_4 (xdc_split 4 xd_276_5 (xdc_split 4 xd_276_6 (xdc_split 4 xd_276_7 (xdc_split 4 xd_276_8 (xdc_split 4 xd_276_9 (xdc_split 4 xd_276_10 (xdc_split 4 xd_276_11 (xdc_split 4 xd_276_12 (xdc_split 4 xd_276_13 (xdc_split 4 xd_276_14 (xdc_split 4 xd_276_15 (xdc_split 4 xd_276_16 (xdc_split 4 xd_276_17 (xdc_split 4 xd_276_18 (xdc_split 4 xd_276_19 (xdc_split 4 xd_276_20 (xdc_split 4 xd_276_21 xd_276_22))))))))))))))))))))))
set_option maxRecDepth 100000 in
theorem xm_0 : xgt 379 = some (.code ⟨"TwoAlike$Changes", "<init>", "(LTwoAlike$Crowd;)V"⟩ prog_2_method_1_code 2 none) := rfl
set_option maxRecDepth 100000 in
theorem xm_1 : xgt 584 = some (.code ⟨"TwoAlike$Changes", "make", "(IIII)V"⟩ prog_2_method_2_code 5 none) := rfl
set_option maxRecDepth 100000 in
theorem xm_2 : xgt 588 = some (.code ⟨"TwoAlike$Changes", "forgetFirst", "()V"⟩ prog_2_method_3_code 2 none) := rfl
set_option maxRecDepth 100000 in
theorem xm_3 : xgt 1043 = some (.code ⟨"TwoAlike$Changes", "takeBack", "()I"⟩ prog_2_method_4_code 1 (some .int)) := rfl
set_option maxRecDepth 100000 in
theorem xm_4 : xgt 1051 = some (.code ⟨"TwoAlike$Changes", "makeAgain", "()I"⟩ prog_2_method_5_code 1 (some .int)) := rfl
set_option maxRecDepth 100000 in
theorem xm_5 : xgt 151 = some (.code ⟨"TwoAlike$Crowd", "<init>", "(LTwoAlike$Scene;)V"⟩ prog_3_method_1_code 2 none) := rfl
set_option maxRecDepth 100000 in
theorem xm_6 : xgt 543 = some (.code ⟨"TwoAlike$Crowd", "has", "(I)Z"⟩ prog_3_method_2_code 2 (some .boolean)) := rfl
set_option maxRecDepth 100000 in
theorem xm_7 : xgt 705 = some (.code ⟨"TwoAlike$Crowd", "hasTwo", "(I)Z"⟩ prog_3_method_3_code 2 (some .boolean)) := rfl
set_option maxRecDepth 100000 in
theorem xm_8 : xgt 899 = some (.code ⟨"TwoAlike$Crowd", "everybody", "()I"⟩ prog_3_method_4_code 1 (some .int)) := rfl
set_option maxRecDepth 100000 in
theorem xm_9 : xgt 507 = some (.code ⟨"TwoAlike$Crowd", "come", "(II)I"⟩ prog_3_method_5_code 3 (some .int)) := rfl
set_option maxRecDepth 100000 in
theorem xm_10 : xgt 547 = some (.code ⟨"TwoAlike$Crowd", "addErrand", "(III)I"⟩ prog_3_method_6_code 5 (some .int)) := rfl
set_option maxRecDepth 100000 in
theorem xm_11 : xgt 555 = some (.code ⟨"TwoAlike$Crowd", "dropErrands", "(I)I"⟩ prog_3_method_7_code 3 (some .int)) := rfl
set_option maxRecDepth 100000 in
theorem xm_12 : xgt 611 = some (.code ⟨"TwoAlike$Crowd", "minutesOf", "(I)I"⟩ prog_3_method_8_code 4 (some .int)) := rfl
set_option maxRecDepth 100000 in
theorem xm_13 : xgt 1176 = some (.code ⟨"TwoAlike$Crowd", "errandsOfAll", "()I"⟩ prog_3_method_9_code 3 (some .int)) := rfl
set_option maxRecDepth 100000 in
theorem xm_14 : xgt 568 = some (.code ⟨"TwoAlike$Crowd", "hatOf", "(I)I"⟩ prog_3_method_10_code 2 (some .int)) := rfl
set_option maxRecDepth 100000 in
theorem xm_15 : xgt 563 = some (.code ⟨"TwoAlike$Crowd", "mayWear", "(II)Z"⟩ prog_3_method_11_code 3 (some .boolean)) := rfl
set_option maxRecDepth 100000 in
theorem xm_16 : xgt 604 = some (.code ⟨"TwoAlike$Crowd", "seen", "(I)I"⟩ prog_3_method_12_code 2 (some .int)) := rfl
set_option maxRecDepth 100000 in
theorem xm_17 : xgt 862 = some (.code ⟨"TwoAlike$Crowd", "seenWith", "(II)I"⟩ prog_3_method_13_code 3 (some .int)) := rfl
set_option maxRecDepth 100000 in
theorem xm_18 : xgt 718 = some (.code ⟨"TwoAlike$Crowd", "seenAfter", "(II)I"⟩ prog_3_method_14_code 4 (some .int)) := rfl
set_option maxRecDepth 100000 in
theorem xm_19 : xgt 607 = some (.code ⟨"TwoAlike$Crowd", "withHat", "(II)I"⟩ prog_3_method_15_code 2 (some .int)) := rfl
set_option maxRecDepth 100000 in
theorem xm_20 : xgt 580 = some (.code ⟨"TwoAlike$Crowd", "told", "(II)I"⟩ prog_3_method_16_code 3 (some .int)) := rfl
set_option maxRecDepth 100000 in
theorem xm_21 : xgt 592 = some (.code ⟨"TwoAlike$Crowd", "tell", "(III)V"⟩ prog_3_method_17_code 4 none) := rfl
set_option maxRecDepth 100000 in
theorem xm_22 : xgt 1023 = some (.code ⟨"TwoAlike$Crowd", "turnMonth", "()I"⟩ prog_3_method_18_code 2 (some .int)) := rfl
set_option maxRecDepth 100000 in
theorem xm_23 : xgt 270 = some (.code ⟨"TwoAlike$Day", "<init>", "(LTwoAlike$Crowd;LTwoAlike$Likeness;)V"⟩ prog_4_method_1_code 3 none) := rfl
set_option maxRecDepth 100000 in
theorem xm_24 : xgt 757 = some (.code ⟨"TwoAlike$Day", "layByNumbers", "()V"⟩ prog_4_method_2_code 1 none) := rfl
set_option maxRecDepth 100000 in
theorem xm_25 : xgt 766 = some (.code ⟨"TwoAlike$Day", "layWithout", "(I)V"⟩ prog_4_method_3_code 4 none) := rfl
set_option maxRecDepth 100000 in
theorem xm_26 : xgt 770 = some (.code ⟨"TwoAlike$Day", "takeTurn", "(II)I"⟩ prog_4_method_4_code 8 (some .int)) := rfl
set_option maxRecDepth 100000 in
theorem xm_27 : xgt 774 = some (.code ⟨"TwoAlike$Day", "stayAtHome", "(I)V"⟩ prog_4_method_5_code 3 none) := rfl
set_option maxRecDepth 100000 in
theorem xm_28 : xgt 778 = some (.code ⟨"TwoAlike$Day", "shutMinutes", "(II)I"⟩ prog_4_method_6_code 5 (some .int)) := rfl
set_option maxRecDepth 100000 in
theorem xm_29 : xgt 781 = some (.code ⟨"TwoAlike$Day", "firstFree", "(III)I"⟩ prog_4_method_7_code 5 (some .int)) := rfl
set_option maxRecDepth 100000 in
theorem xm_30 : xgt 790 = some (.code ⟨"TwoAlike$Day", "waitedByAll", "()I"⟩ prog_4_method_8_code 3 (some .int)) := rfl
set_option maxRecDepth 100000 in
theorem xm_31 : xgt 801 = some (.code ⟨"TwoAlike$Day", "streetOf", "(II)I"⟩ prog_4_method_9_code 4 (some .int)) := rfl
set_option maxRecDepth 100000 in
theorem xm_32 : xgt 786 = some (.code ⟨"TwoAlike$Day", "remember", "()V"⟩ prog_4_method_10_code 2 none) := rfl
set_option maxRecDepth 100000 in
theorem xm_33 : xgt 837 = some (.code ⟨"TwoAlike$Day", "whoBars", "(I)I"⟩ prog_4_method_11_code 5 (some .int)) := rfl
set_option maxRecDepth 100000 in
theorem xm_34 : xgt 813 = some (.code ⟨"TwoAlike$Day", "findBestOrder", "()V"⟩ prog_4_method_12_code 1 none) := rfl
set_option maxRecDepth 100000 in
theorem xm_35 : xgt 817 = some (.code ⟨"TwoAlike$Day", "orderFrom", "(III)V"⟩ prog_4_method_13_code 5 none) := rfl
set_option maxRecDepth 100000 in
theorem xm_36 : xgt 829 = some (.code ⟨"TwoAlike$Day", "orderWith", "(IIII)V"⟩ prog_4_method_14_code 6 none) := rfl
set_option maxRecDepth 100000 in
theorem xm_37 : xgt 825 = some (.code ⟨"TwoAlike$Day", "leastToCome", "(II)I"⟩ prog_4_method_15_code 5 (some .int)) := rfl
set_option maxRecDepth 100000 in
theorem xm_38 : xgt 821 = some (.code ⟨"TwoAlike$Day", "keepOrder", "(I)V"⟩ prog_4_method_16_code 3 none) := rfl
set_option maxRecDepth 100000 in
theorem xm_39 : xgt 202 = some (.code ⟨"TwoAlike$Law", "<init>", "()V"⟩ prog_5_method_1_code 1 none) := rfl
set_option maxRecDepth 100000 in
theorem xm_40 : xgt 697 = some (.code ⟨"TwoAlike$Law", "copy", "(LTwoAlike$Law;)V"⟩ prog_5_method_2_code 3 none) := rfl
set_option maxRecDepth 100000 in
theorem xm_41 : xgt 678 = some (.code ⟨"TwoAlike$Law", "add", "(II)V"⟩ prog_5_method_3_code 3 none) := rfl
set_option maxRecDepth 100000 in
theorem xm_42 : xgt 693 = some (.code ⟨"TwoAlike$Law", "endSkip", "(I)V"⟩ prog_5_method_4_code 2 none) := rfl
set_option maxRecDepth 100000 in
theorem xm_43 : xgt 722 = some (.code ⟨"TwoAlike$Law", "holds", "(IIIII)Z"⟩ prog_5_method_5_code 10 (some .boolean)) := rfl
set_option maxRecDepth 100000 in
theorem xm_44 : xgt 742 = some (.code ⟨"TwoAlike$Law", "run", "(II)V"⟩ prog_5_method_6_code 4 none) := rfl
set_option maxRecDepth 100000 in
theorem xm_45 : xgt 749 = some (.code ⟨"TwoAlike$Law", "joined", "(III)I"⟩ prog_5_method_7_code 3 (some .int)) := rfl
set_option maxRecDepth 100000 in
theorem xm_46 : xgt 746 = some (.code ⟨"TwoAlike$Law", "push", "(I)V"⟩ prog_5_method_8_code 2 none) := rfl
set_option maxRecDepth 100000 in
theorem xm_47 : xgt 738 = some (.code ⟨"TwoAlike$Law", "pop", "()I"⟩ prog_5_method_9_code 1 (some .int)) := rfl
set_option maxRecDepth 100000 in
theorem xm_48 : xgt 252 = some (.code ⟨"TwoAlike$Likeness", "<init>", "(LTwoAlike$Crowd;LTwoAlike$Law;)V"⟩ prog_6_method_1_code 3 none) := rfl
set_option maxRecDepth 100000 in
theorem xm_49 : xgt 710 = some (.code ⟨"TwoAlike$Likeness", "isAfter", "(III)Z"⟩ prog_6_method_2_code 6 (some .boolean)) := rfl
set_option maxRecDepth 100000 in
theorem xm_50 : xgt 858 = some (.code ⟨"TwoAlike$Likeness", "isWith", "(IIII)Z"⟩ prog_6_method_3_code 6 (some .boolean)) := rfl
set_option maxRecDepth 100000 in
theorem xm_51 : xgt 714 = some (.code ⟨"TwoAlike$Likeness", "worn", "(I)I"⟩ prog_6_method_4_code 1 (some .int)) := rfl
set_option maxRecDepth 100000 in
theorem xm_52 : xgt 761 = some (.code ⟨"TwoAlike$Likeness", "lookAround", "()V"⟩ prog_6_method_5_code 3 none) := rfl
set_option maxRecDepth 100000 in
theorem xm_53 : xgt 886 = some (.code ⟨"TwoAlike$Likeness", "pairsAfter", "(I)I"⟩ prog_6_method_6_code 5 (some .int)) := rfl
set_option maxRecDepth 100000 in
theorem xm_54 : xgt 894 = some (.code ⟨"TwoAlike$Likeness", "greatestKind", "()I"⟩ prog_6_method_7_code 3 (some .int)) := rfl
set_option maxRecDepth 100000 in
theorem xm_55 : xgt 904 = some (.code ⟨"TwoAlike$Likeness", "isKind", "(I)Z"⟩ prog_6_method_8_code 3 (some .boolean)) := rfl
set_option maxRecDepth 100000 in
theorem xm_56 : xgt 913 = some (.code ⟨"TwoAlike$Likeness", "hatToPass", "(II)I"⟩ prog_6_method_9_code 4 (some .int)) := rfl
set_option maxRecDepth 100000 in
theorem xm_57 : xgt 115 = some (.code ⟨"TwoAlike$Scene", "<init>", "()V"⟩ prog_7_method_1_code 2 none) := rfl
set_option maxRecDepth 100000 in
theorem xm_58 : xgt 1031 = some (.code ⟨"TwoAlike$Scene", "copy", "(LTwoAlike$Scene;)V"⟩ prog_7_method_2_code 3 none) := rfl
set_option maxRecDepth 100000 in
theorem xm_59 : xgt 615 = some (.code ⟨"TwoAlike$Scene", "hasSight", "(I)Z"⟩ prog_7_method_3_code 2 (some .boolean)) := rfl
set_option maxRecDepth 100000 in
theorem xm_60 : xgt 961 = some (.code ⟨"TwoAlike$Scene", "addSight", "(III)I"⟩ prog_7_method_4_code 4 (some .int)) := rfl
set_option maxRecDepth 100000 in
theorem xm_61 : xgt 923 = some (.code ⟨"TwoAlike$Scene", "tellDay", "(IIII)I"⟩ prog_7_method_5_code 6 (some .int)) := rfl
set_option maxRecDepth 100000 in
theorem xm_62 : xgt 940 = some (.code ⟨"TwoAlike$Scene", "toldStreet", "(II)I"⟩ prog_7_method_6_code 3 (some .int)) := rfl
set_option maxRecDepth 100000 in
theorem xm_63 : xgt 948 = some (.code ⟨"TwoAlike$Scene", "firstApart", "(II)I"⟩ prog_7_method_7_code 5 (some .int)) := rfl
set_option maxRecDepth 100000 in
theorem xm_64 : xgt 953 = some (.code ⟨"TwoAlike$Scene", "minutesApart", "(II)I"⟩ prog_7_method_8_code 5 (some .int)) := rfl
set_option maxRecDepth 100000 in
theorem xm_65 : xgt 434 = some (.code ⟨"TwoAlike$Shelves", "<init>", "()V"⟩ prog_8_method_1_code 1 none) := rfl
set_option maxRecDepth 100000 in
theorem xm_66 : xgt 515 = some (.code ⟨"TwoAlike$Shelves", "isShelf", "(I)Z"⟩ prog_8_method_2_code 2 (some .boolean)) := rfl
set_option maxRecDepth 100000 in
theorem xm_67 : xgt 1116 = some (.code ⟨"TwoAlike$Shelves", "isSort", "(I)Z"⟩ prog_8_method_3_code 2 (some .boolean)) := rfl
set_option maxRecDepth 100000 in
theorem xm_68 : xgt 519 = some (.code ⟨"TwoAlike$Shelves", "isBare", "(I)Z"⟩ prog_8_method_4_code 2 (some .boolean)) := rfl
set_option maxRecDepth 100000 in
theorem xm_69 : xgt 523 = some (.code ⟨"TwoAlike$Shelves", "isRowOf", "(II)Z"⟩ prog_8_method_5_code 3 (some .boolean)) := rfl
set_option maxRecDepth 100000 in
theorem xm_70 : xgt 531 = some (.code ⟨"TwoAlike$Shelves", "sizeOf", "(I)I"⟩ prog_8_method_6_code 2 (some .int)) := rfl
set_option maxRecDepth 100000 in
theorem xm_71 : xgt 1165 = some (.code ⟨"TwoAlike$Shelves", "twinOn", "(I)I"⟩ prog_8_method_7_code 2 (some .int)) := rfl
set_option maxRecDepth 100000 in
theorem xm_72 : xgt 1108 = some (.code ⟨"TwoAlike$Shelves", "holdTwin", "(II)I"⟩ prog_8_method_8_code 3 (some .int)) := rfl
set_option maxRecDepth 100000 in
theorem xm_73 : xgt 1120 = some (.code ⟨"TwoAlike$Shelves", "holdRow", "(III)I"⟩ prog_8_method_9_code 5 (some .int)) := rfl
set_option maxRecDepth 100000 in
theorem xm_74 : xgt 1128 = some (.code ⟨"TwoAlike$Shelves", "refusal", "(II)I"⟩ prog_8_method_10_code 3 (some .int)) := rfl
set_option maxRecDepth 100000 in
theorem xm_75 : xgt 535 = some (.code ⟨"TwoAlike$Shelves", "read", "(II)J"⟩ prog_8_method_11_code 3 (some .long)) := rfl
set_option maxRecDepth 100000 in
theorem xm_76 : xgt 1133 = some (.code ⟨"TwoAlike$Shelves", "write", "(IIJ)V"⟩ prog_8_method_12_code 5 none) := rfl
set_option maxRecDepth 100000 in
theorem xm_77 : xgt 1136 = some (.code ⟨"TwoAlike$Shelves", "lowestBits", "(IJ)J"⟩ prog_8_method_13_code 3 (some .long)) := rfl
set_option maxRecDepth 100000 in
theorem xm_78 : xgt 1149 = some (.code ⟨"TwoAlike$Shelves", "move", "(IIIII)I"⟩ prog_8_method_14_code 6 (some .int)) := rfl
set_option maxRecDepth 100000 in
theorem xm_79 : xgt 1154 = some (.code ⟨"TwoAlike$Shelves", "reaches", "(III)Z"⟩ prog_8_method_15_code 4 (some .boolean)) := rfl
set_option maxRecDepth 100000 in
theorem xm_80 : xgt 354 = some (.code ⟨"TwoAlike$Sightings", "<init>", "(LTwoAlike$Scene;LTwoAlike$Crowd;LTwoAlike$Likeness;)V"⟩ prog_9_method_1_code 4 none) := rfl
set_option maxRecDepth 100000 in
theorem xm_81 : xgt 931 = some (.code ⟨"TwoAlike$Sightings", "firstMeeting", "()I"⟩ prog_9_method_2_code 3 (some .int)) := rfl
set_option maxRecDepth 100000 in
theorem xm_82 : xgt 936 = some (.code ⟨"TwoAlike$Sightings", "firstTwoIn", "(I)I"⟩ prog_9_method_3_code 6 (some .int)) := rfl
set_option maxRecDepth 100000 in
theorem xm_83 : xgt 969 = some (.code ⟨"TwoAlike$Sightings", "fewestPeople", "(I)I"⟩ prog_9_method_4_code 4 (some .int)) := rfl
set_option maxRecDepth 100000 in
theorem xm_84 : xgt 973 = some (.code ⟨"TwoAlike$Sightings", "bar", "(III)Z"⟩ prog_9_method_5_code 5 (some .boolean)) := rfl
set_option maxRecDepth 100000 in
theorem xm_85 : xgt 978 = some (.code ⟨"TwoAlike$Sightings", "shareOutFrom", "(II)V"⟩ prog_9_method_6_code 4 none) := rfl
set_option maxRecDepth 100000 in
theorem xm_86 : xgt 982 = some (.code ⟨"TwoAlike$Sightings", "shareInto", "(III)V"⟩ prog_9_method_7_code 4 none) := rfl
set_option maxRecDepth 100000 in
theorem xm_87 : xgt 990 = some (.code ⟨"TwoAlike$Sightings", "whoCanBe", "(I)I"⟩ prog_9_method_8_code 4 (some .int)) := rfl
set_option maxRecDepth 100000 in
theorem xm_88 : xgt 994 = some (.code ⟨"TwoAlike$Sightings", "canLook", "(II)Z"⟩ prog_9_method_9_code 4 (some .boolean)) := rfl
set_option maxRecDepth 100000 in
theorem xm_89 : xgt 1005 = some (.code ⟨"TwoAlike$Sightings", "goneFrom", "(I)I"⟩ prog_9_method_10_code 4 (some .int)) := rfl
set_option maxRecDepth 100000 in
theorem xm_90 : xgt 1011 = some (.code ⟨"TwoAlike$Sightings", "livedOn", "(I)I"⟩ prog_9_method_11_code 4 (some .int)) := rfl
set_option maxRecDepth 100000 in
theorem xm_91 : xgt 228 = some (.code ⟨"TwoAlike$Tape", "<init>", "()V"⟩ prog_10_method_1_code 1 none) := rfl
set_option maxRecDepth 100000 in
theorem xm_92 : xgt 627 = some (.code ⟨"TwoAlike$Tape", "take", "(I)I"⟩ prog_10_method_2_code 2 (some .int)) := rfl
set_option maxRecDepth 100000 in
theorem xm_93 : xgt 635 = some (.code ⟨"TwoAlike$Tape", "isText", "()Z"⟩ prog_10_method_3_code 3 (some .boolean)) := rfl
set_option maxRecDepth 100000 in
theorem xm_94 : xgt 667 = some (.code ⟨"TwoAlike$Tape", "next", "()I"⟩ prog_10_method_4_code 1 (some .int)) := rfl
set_option maxRecDepth 100000 in
theorem xm_95 : xgt 689 = some (.code ⟨"TwoAlike$Tape", "passOver", "(I)Z"⟩ prog_10_method_5_code 2 (some .boolean)) := rfl
set_option maxRecDepth 100000 in
theorem xm_96 : xgt 639 = some (.code ⟨"TwoAlike$Tape", "readLine", "()Z"⟩ prog_10_method_6_code 2 (some .boolean)) := rfl
set_option maxRecDepth 100000 in
theorem xm_97 : xgt 643 = some (.code ⟨"TwoAlike$Tape", "readEither", "(I)Z"⟩ prog_10_method_7_code 3 (some .boolean)) := rfl
set_option maxRecDepth 100000 in
theorem xm_98 : xgt 647 = some (.code ⟨"TwoAlike$Tape", "readBoth", "(I)Z"⟩ prog_10_method_8_code 3 (some .boolean)) := rfl
set_option maxRecDepth 100000 in
theorem xm_99 : xgt 651 = some (.code ⟨"TwoAlike$Tape", "readComparison", "(I)Z"⟩ prog_10_method_9_code 3 (some .boolean)) := rfl
set_option maxRecDepth 100000 in
theorem xm_100 : xgt 655 = some (.code ⟨"TwoAlike$Tape", "readSum", "(I)Z"⟩ prog_10_method_10_code 4 (some .boolean)) := rfl
set_option maxRecDepth 100000 in
theorem xm_101 : xgt 659 = some (.code ⟨"TwoAlike$Tape", "readProduct", "(I)Z"⟩ prog_10_method_11_code 4 (some .boolean)) := rfl
set_option maxRecDepth 100000 in
theorem xm_102 : xgt 663 = some (.code ⟨"TwoAlike$Tape", "readOperand", "(I)Z"⟩ prog_10_method_12_code 4 (some .boolean)) := rfl
set_option maxRecDepth 100000 in
theorem xm_103 : xgt 685 = some (.code ⟨"TwoAlike$Tape", "readOpened", "(II)Z"⟩ prog_10_method_13_code 3 (some .boolean)) := rfl
set_option maxRecDepth 100000 in
theorem xm_104 : xgt 674 = some (.code ⟨"TwoAlike$Tape", "readNumber", "()Z"⟩ prog_10_method_14_code 3 (some .boolean)) := rfl
set_option maxRecDepth 100000 in
theorem xm_105 : xgt 670 = some (.code ⟨"TwoAlike$Tape", "isDigit", "(I)Z"⟩ prog_10_method_15_code 1 (some .boolean)) := rfl
set_option maxRecDepth 100000 in
theorem xm_106 : xgt 681 = some (.code ⟨"TwoAlike$Tape", "nameOf", "(I)I"⟩ prog_10_method_16_code 1 (some .int)) := rfl
set_option maxRecDepth 100000 in
theorem xm_107 : xgt 408 = some (.code ⟨"TwoAlike$Twins", "<init>", "()V"⟩ prog_11_method_1_code 1 none) := rfl
set_option maxRecDepth 100000 in
theorem xm_108 : xgt 1058 = some (.code ⟨"TwoAlike$Twins", "isKind", "(I)Z"⟩ prog_11_method_2_code 1 (some .boolean)) := rfl
set_option maxRecDepth 100000 in
theorem xm_109 : xgt 1168 = some (.code ⟨"TwoAlike$Twins", "isUnder", "(II)Z"⟩ prog_11_method_3_code 4 (some .boolean)) := rfl
set_option maxRecDepth 100000 in
theorem xm_110 : xgt 1074 = some (.code ⟨"TwoAlike$Twins", "has", "(I)Z"⟩ prog_11_method_4_code 2 (some .boolean)) := rfl
set_option maxRecDepth 100000 in
theorem xm_111 : xgt 1062 = some (.code ⟨"TwoAlike$Twins", "add", "(I)I"⟩ prog_11_method_5_code 2 (some .int)) := rfl
set_option maxRecDepth 100000 in
theorem xm_112 : xgt 1098 = some (.code ⟨"TwoAlike$Twins", "traced", "()I"⟩ prog_11_method_6_code 1 (some .int)) := rfl
set_option maxRecDepth 100000 in
theorem xm_113 : xgt 1070 = some (.code ⟨"TwoAlike$Twins", "begin", "(III)I"⟩ prog_11_method_7_code 4 (some .int)) := rfl
set_option maxRecDepth 100000 in
theorem xm_114 : xgt 1078 = some (.code ⟨"TwoAlike$Twins", "own", "(III)I"⟩ prog_11_method_8_code 4 (some .int)) := rfl
set_option maxRecDepth 100000 in
theorem xm_115 : xgt 1082 = some (.code ⟨"TwoAlike$Twins", "from", "(IIII)I"⟩ prog_11_method_9_code 7 (some .int)) := rfl
set_option maxRecDepth 100000 in
theorem xm_116 : xgt 1090 = some (.code ⟨"TwoAlike$Twins", "run", "(III)I"⟩ prog_11_method_10_code 7 (some .int)) := rfl
set_option maxRecDepth 100000 in
theorem xm_117 : xgt 324 = some (.code ⟨"TwoAlike$Wardrobe", "<init>", "(LTwoAlike$Crowd;LTwoAlike$Likeness;)V"⟩ prog_12_method_1_code 3 none) := rfl
set_option maxRecDepth 100000 in
theorem xm_118 : xgt 849 = some (.code ⟨"TwoAlike$Wardrobe", "findFewest", "()Z"⟩ prog_12_method_2_code 3 (some .boolean)) := rfl
set_option maxRecDepth 100000 in
theorem xm_119 : xgt 853 = some (.code ⟨"TwoAlike$Wardrobe", "findClashes", "(II)V"⟩ prog_12_method_3_code 6 none) := rfl
set_option maxRecDepth 100000 in
theorem xm_120 : xgt 866 = some (.code ⟨"TwoAlike$Wardrobe", "chooseFrom", "(II)V"⟩ prog_12_method_4_code 4 none) := rfl
set_option maxRecDepth 100000 in
theorem xm_121 : xgt 874 = some (.code ⟨"TwoAlike$Wardrobe", "choose", "(III)V"⟩ prog_12_method_5_code 4 none) := rfl
set_option maxRecDepth 100000 in
theorem xm_122 : xgt 878 = some (.code ⟨"TwoAlike$Wardrobe", "leavesFree", "(II)Z"⟩ prog_12_method_6_code 5 (some .boolean)) := rfl
set_option maxRecDepth 100000 in
theorem xm_123 : xgt 870 = some (.code ⟨"TwoAlike$Wardrobe", "mustWear", "(I)I"⟩ prog_12_method_7_code 4 (some .int)) := rfl
set_option maxRecDepth 100000 in
theorem xm_124 : xgt 107 = some (.code ⟨"TwoAlike", "<init>", "()V"⟩ prog_1_method_1_code 1 none) := rfl
set_option maxRecDepth 100000 in
theorem xm_125 : xgt 499 = some (.code ⟨"TwoAlike", "person", "(II)I"⟩ prog_1_method_2_code 3 (some .int)) := rfl
set_option maxRecDepth 100000 in
theorem xm_126 : xgt 511 = some (.code ⟨"TwoAlike", "people", "(III)I"⟩ prog_1_method_3_code 4 (some .int)) := rfl
set_option maxRecDepth 100000 in
theorem xm_127 : xgt 527 = some (.code ⟨"TwoAlike", "comeFromRow", "(III)I"⟩ prog_1_method_4_code 11 (some .int)) := rfl
set_option maxRecDepth 100000 in
theorem xm_128 : xgt 539 = some (.code ⟨"TwoAlike", "errand", "(II)I"⟩ prog_1_method_5_code 5 (some .int)) := rfl
set_option maxRecDepth 100000 in
theorem xm_129 : xgt 551 = some (.code ⟨"TwoAlike", "clear", "(I)I"⟩ prog_1_method_6_code 2 (some .int)) := rfl
set_option maxRecDepth 100000 in
theorem xm_130 : xgt 559 = some (.code ⟨"TwoAlike", "hat", "(II)I"⟩ prog_1_method_7_code 4 (some .int)) := rfl
set_option maxRecDepth 100000 in
theorem xm_131 : xgt 572 = some (.code ⟨"TwoAlike", "mend", "(III)I"⟩ prog_1_method_8_code 5 (some .int)) := rfl
set_option maxRecDepth 100000 in
theorem xm_132 : xgt 576 = some (.code ⟨"TwoAlike", "mayBecome", "(III)Z"⟩ prog_1_method_9_code 4 (some .boolean)) := rfl
set_option maxRecDepth 100000 in
theorem xm_133 : xgt 596 = some (.code ⟨"TwoAlike", "of", "(II)I"⟩ prog_1_method_10_code 3 (some .int)) := rfl
set_option maxRecDepth 100000 in
theorem xm_134 : xgt 600 = some (.code ⟨"TwoAlike", "ofPerson", "(II)I"⟩ prog_1_method_11_code 3 (some .int)) := rfl
set_option maxRecDepth 100000 in
theorem xm_135 : xgt 619 = some (.code ⟨"TwoAlike", "ofSight", "(II)I"⟩ prog_1_method_12_code 3 (some .int)) := rfl
set_option maxRecDepth 100000 in
theorem xm_136 : xgt 623 = some (.code ⟨"TwoAlike", "feed", "(I)I"⟩ prog_1_method_13_code 2 (some .int)) := rfl
set_option maxRecDepth 100000 in
theorem xm_137 : xgt 631 = some (.code ⟨"TwoAlike", "law", "()I"⟩ prog_1_method_14_code 3 (some .int)) := rfl
set_option maxRecDepth 100000 in
theorem xm_138 : xgt 701 = some (.code ⟨"TwoAlike", "alike", "(I)I"⟩ prog_1_method_15_code 2 (some .int)) := rfl
set_option maxRecDepth 100000 in
theorem xm_139 : xgt 753 = some (.code ⟨"TwoAlike", "plan", "()I"⟩ prog_1_method_16_code 1 (some .int)) := rfl
set_option maxRecDepth 100000 in
theorem xm_140 : xgt 794 = some (.code ⟨"TwoAlike", "where", "(II)I"⟩ prog_1_method_17_code 3 (some .int)) := rfl
set_option maxRecDepth 100000 in
theorem xm_141 : xgt 805 = some (.code ⟨"TwoAlike", "waited", "(II)I"⟩ prog_1_method_18_code 3 (some .int)) := rfl
set_option maxRecDepth 100000 in
theorem xm_142 : xgt 809 = some (.code ⟨"TwoAlike", "best", "(I)I"⟩ prog_1_method_19_code 2 (some .int)) := rfl
set_option maxRecDepth 100000 in
theorem xm_143 : xgt 833 = some (.code ⟨"TwoAlike", "bars", "(I)I"⟩ prog_1_method_20_code 2 (some .int)) := rfl
set_option maxRecDepth 100000 in
theorem xm_144 : xgt 841 = some (.code ⟨"TwoAlike", "led", "(II)I"⟩ prog_1_method_21_code 3 (some .int)) := rfl
set_option maxRecDepth 100000 in
theorem xm_145 : xgt 845 = some (.code ⟨"TwoAlike", "hats", "(I)I"⟩ prog_1_method_22_code 2 (some .int)) := rfl
set_option maxRecDepth 100000 in
theorem xm_146 : xgt 882 = some (.code ⟨"TwoAlike", "needs", "()I"⟩ prog_1_method_23_code 1 (some .int)) := rfl
set_option maxRecDepth 100000 in
theorem xm_147 : xgt 890 = some (.code ⟨"TwoAlike", "kinds", "(I)I"⟩ prog_1_method_24_code 3 (some .int)) := rfl
set_option maxRecDepth 100000 in
theorem xm_148 : xgt 909 = some (.code ⟨"TwoAlike", "pass", "(I)I"⟩ prog_1_method_25_code 2 (some .int)) := rfl
set_option maxRecDepth 100000 in
theorem xm_149 : xgt 919 = some (.code ⟨"TwoAlike", "go", "(III)I"⟩ prog_1_method_26_code 6 (some .int)) := rfl
set_option maxRecDepth 100000 in
theorem xm_150 : xgt 927 = some (.code ⟨"TwoAlike", "judge", "(I)I"⟩ prog_1_method_27_code 3 (some .int)) := rfl
set_option maxRecDepth 100000 in
theorem xm_151 : xgt 944 = some (.code ⟨"TwoAlike", "watch", "(II)I"⟩ prog_1_method_28_code 3 (some .int)) := rfl
set_option maxRecDepth 100000 in
theorem xm_152 : xgt 957 = some (.code ⟨"TwoAlike", "sight", "(II)I"⟩ prog_1_method_29_code 3 (some .int)) := rfl
set_option maxRecDepth 100000 in
theorem xm_153 : xgt 965 = some (.code ⟨"TwoAlike", "atLeast", "(I)I"⟩ prog_1_method_30_code 2 (some .int)) := rfl
set_option maxRecDepth 100000 in
theorem xm_154 : xgt 986 = some (.code ⟨"TwoAlike", "who", "(I)I"⟩ prog_1_method_31_code 2 (some .int)) := rfl
set_option maxRecDepth 100000 in
theorem xm_155 : xgt 1001 = some (.code ⟨"TwoAlike", "gone", "(II)I"⟩ prog_1_method_32_code 4 (some .int)) := rfl
set_option maxRecDepth 100000 in
theorem xm_156 : xgt 1015 = some (.code ⟨"TwoAlike", "months", "(I)I"⟩ prog_1_method_33_code 2 (some .int)) := rfl
set_option maxRecDepth 100000 in
theorem xm_157 : xgt 1019 = some (.code ⟨"TwoAlike", "turn", "()I"⟩ prog_1_method_34_code 1 (some .int)) := rfl
set_option maxRecDepth 100000 in
theorem xm_158 : xgt 1027 = some (.code ⟨"TwoAlike", "image", "()I"⟩ prog_1_method_35_code 1 (some .int)) := rfl
set_option maxRecDepth 100000 in
theorem xm_159 : xgt 1035 = some (.code ⟨"TwoAlike", "back", "()I"⟩ prog_1_method_36_code 1 (some .int)) := rfl
set_option maxRecDepth 100000 in
theorem xm_160 : xgt 1039 = some (.code ⟨"TwoAlike", "undo", "()I"⟩ prog_1_method_37_code 1 (some .int)) := rfl
set_option maxRecDepth 100000 in
theorem xm_161 : xgt 1047 = some (.code ⟨"TwoAlike", "redo", "()I"⟩ prog_1_method_38_code 1 (some .int)) := rfl
set_option maxRecDepth 100000 in
theorem xm_162 : xgt 1055 = some (.code ⟨"TwoAlike", "body", "(I)I"⟩ prog_1_method_39_code 2 (some .int)) := rfl
set_option maxRecDepth 100000 in
theorem xm_163 : xgt 1066 = some (.code ⟨"TwoAlike", "act", "(III)I"⟩ prog_1_method_40_code 4 (some .int)) := rfl
set_option maxRecDepth 100000 in
theorem xm_164 : xgt 1094 = some (.code ⟨"TwoAlike", "trace", "(I)I"⟩ prog_1_method_41_code 2 (some .int)) := rfl
set_option maxRecDepth 100000 in
theorem xm_165 : xgt 1103 = some (.code ⟨"TwoAlike", "keep", "(II)I"⟩ prog_1_method_42_code 3 (some .int)) := rfl
set_option maxRecDepth 100000 in
theorem xm_166 : xgt 1112 = some (.code ⟨"TwoAlike", "row", "(III)I"⟩ prog_1_method_43_code 4 (some .int)) := rfl
set_option maxRecDepth 100000 in
theorem xm_167 : xgt 1124 = some (.code ⟨"TwoAlike", "put", "(IIJ)I"⟩ prog_1_method_44_code 6 (some .int)) := rfl
set_option maxRecDepth 100000 in
theorem xm_168 : xgt 1140 = some (.code ⟨"TwoAlike", "element", "(II)J"⟩ prog_1_method_45_code 3 (some .long)) := rfl
set_option maxRecDepth 100000 in
theorem xm_169 : xgt 1145 = some (.code ⟨"TwoAlike", "shift", "(IIIII)I"⟩ prog_1_method_46_code 6 (some .int)) := rfl
set_option maxRecDepth 100000 in
theorem xm_170 : xgt 1161 = some (.code ⟨"TwoAlike", "taken", "(II)I"⟩ prog_1_method_47_code 5 (some .int)) := rfl
set_option maxRecDepth 100000 in
theorem xm_171 : xgt 1172 = some (.code ⟨"TwoAlike", "count", "(I)I"⟩ prog_1_method_48_code 2 (some .int)) := rfl
set_option maxRecDepth 100000 in
theorem xm_172 : xgt 502 = some (.code ⟨"TwoAlike", "isParts", "(J)Z"⟩ prog_1_method_49_code 2 (some .boolean)) := rfl
set_option maxRecDepth 100000 in
theorem xm_173 : xgt 797 = some (.code ⟨"TwoAlike", "isMinute", "(I)Z"⟩ prog_1_method_50_code 1 (some .boolean)) := rfl
set_option maxRecDepth 100000 in
theorem xm_174 : xgt 1364 = some (.code ⟨"TwoAlikeModel", "within", "(JJJ)Z"⟩ prog_14_method_1_code 6 (some .boolean)) := rfl
set_option maxRecDepth 100000 in
theorem xm_175 : xgt 1503 = some (.code ⟨"TwoAlikeModel", "bitsOf", "(I)I"⟩ prog_14_method_2_code 3 (some .int)) := rfl
set_option maxRecDepth 100000 in
theorem xm_176 : xgt 1397 = some (.code ⟨"TwoAlikeModel", "isIn", "(II)Z"⟩ prog_14_method_3_code 2 (some .boolean)) := rfl
set_option maxRecDepth 100000 in
theorem xm_177 : xgt 1181 = some (.code ⟨"TwoAlikeModel", "<init>", "()V"⟩ prog_14_method_4_code 2 none) := rfl
set_option maxRecDepth 100000 in
theorem xm_178 : xgt 1406 = some (.code ⟨"TwoAlikeModel", "becomes", "(II)I"⟩ prog_14_method_5_code 5 (some .int)) := rfl
set_option maxRecDepth 100000 in
theorem xm_179 : xgt 1349 = some (.code ⟨"TwoAlikeModel", "undo", "()I"⟩ prog_14_method_6_code 1 (some .int)) := rfl
set_option maxRecDepth 100000 in
theorem xm_180 : xgt 1353 = some (.code ⟨"TwoAlikeModel", "redo", "()I"⟩ prog_14_method_7_code 1 (some .int)) := rfl
set_option maxRecDepth 100000 in
theorem xm_181 : xgt 1385 = some (.code ⟨"TwoAlikeModel", "isPerson", "(I)Z"⟩ prog_14_method_8_code 2 (some .boolean)) := rfl
set_option maxRecDepth 100000 in
theorem xm_182 : xgt 1489 = some (.code ⟨"TwoAlikeModel", "isPq", "(I)Z"⟩ prog_14_method_9_code 2 (some .boolean)) := rfl
set_option maxRecDepth 100000 in
theorem xm_183 : xgt 1360 = some (.code ⟨"TwoAlikeModel", "areLooks", "(J)Z"⟩ prog_14_method_10_code 2 (some .boolean)) := rfl
set_option maxRecDepth 100000 in
theorem xm_184 : xgt 1368 = some (.code ⟨"TwoAlikeModel", "adds", "(II)V"⟩ prog_14_method_11_code 3 none) := rfl
set_option maxRecDepth 100000 in
theorem xm_185 : xgt 1357 = some (.code ⟨"TwoAlikeModel", "person", "(II)I"⟩ prog_14_method_12_code 3 (some .int)) := rfl
set_option maxRecDepth 100000 in
theorem xm_186 : xgt 1372 = some (.code ⟨"TwoAlikeModel", "people", "(III)I"⟩ prog_14_method_13_code 7 (some .int)) := rfl
set_option maxRecDepth 100000 in
theorem xm_187 : xgt 1381 = some (.code ⟨"TwoAlikeModel", "errand", "(II)I"⟩ prog_14_method_14_code 3 (some .int)) := rfl
set_option maxRecDepth 100000 in
theorem xm_188 : xgt 1390 = some (.code ⟨"TwoAlikeModel", "clear", "(I)I"⟩ prog_14_method_15_code 3 (some .int)) := rfl
set_option maxRecDepth 100000 in
theorem xm_189 : xgt 1394 = some (.code ⟨"TwoAlikeModel", "hat", "(II)I"⟩ prog_14_method_16_code 4 (some .int)) := rfl
set_option maxRecDepth 100000 in
theorem xm_190 : xgt 1402 = some (.code ⟨"TwoAlikeModel", "mend", "(III)I"⟩ prog_14_method_17_code 4 (some .int)) := rfl
set_option maxRecDepth 100000 in
theorem xm_191 : xgt 1422 = some (.code ⟨"TwoAlikeModel", "seenWith", "(II)I"⟩ prog_14_method_18_code 2 (some .int)) := rfl
set_option maxRecDepth 100000 in
theorem xm_192 : xgt 1419 = some (.code ⟨"TwoAlikeModel", "seenOf", "(I)I"⟩ prog_14_method_19_code 2 (some .int)) := rfl
set_option maxRecDepth 100000 in
theorem xm_193 : xgt 1426 = some (.code ⟨"TwoAlikeModel", "minutesOf", "(I)I"⟩ prog_14_method_20_code 4 (some .int)) := rfl
set_option maxRecDepth 100000 in
theorem xm_194 : xgt 1415 = some (.code ⟨"TwoAlikeModel", "ofPerson", "(II)I"⟩ prog_14_method_21_code 3 (some .int)) := rfl
set_option maxRecDepth 100000 in
theorem xm_195 : xgt 1411 = some (.code ⟨"TwoAlikeModel", "of", "(II)I"⟩ prog_14_method_22_code 3 (some .int)) := rfl
set_option maxRecDepth 100000 in
theorem xm_196 : xgt 1433 = some (.code ⟨"TwoAlikeModel", "feed", "(I)I"⟩ prog_14_method_23_code 2 (some .int)) := rfl
set_option maxRecDepth 100000 in
theorem xm_197 : xgt 1470 = some (.code ⟨"TwoAlikeModel", "byteAt", "()I"⟩ prog_14_method_24_code 1 (some .int)) := rfl
set_option maxRecDepth 100000 in
theorem xm_198 : xgt 1474 = some (.code ⟨"TwoAlikeModel", "wrong", "()I"⟩ prog_14_method_25_code 1 (some .int)) := rfl
set_option maxRecDepth 100000 in
theorem xm_199 : xgt 1478 = some (.code ⟨"TwoAlikeModel", "takes", "(I)Z"⟩ prog_14_method_26_code 2 (some .boolean)) := rfl
set_option maxRecDepth 100000 in
theorem xm_200 : xgt 1446 = some (.code ⟨"TwoAlikeModel", "either", "()I"⟩ prog_14_method_27_code 3 (some .int)) := rfl
set_option maxRecDepth 100000 in
theorem xm_201 : xgt 1450 = some (.code ⟨"TwoAlikeModel", "both", "()I"⟩ prog_14_method_28_code 3 (some .int)) := rfl
set_option maxRecDepth 100000 in
theorem xm_202 : xgt 1454 = some (.code ⟨"TwoAlikeModel", "compared", "()I"⟩ prog_14_method_29_code 4 (some .int)) := rfl
set_option maxRecDepth 100000 in
theorem xm_203 : xgt 1458 = some (.code ⟨"TwoAlikeModel", "sums", "()I"⟩ prog_14_method_30_code 4 (some .int)) := rfl
set_option maxRecDepth 100000 in
theorem xm_204 : xgt 1462 = some (.code ⟨"TwoAlikeModel", "product", "()I"⟩ prog_14_method_31_code 4 (some .int)) := rfl
set_option maxRecDepth 100000 in
theorem xm_205 : xgt 1481 = some (.code ⟨"TwoAlikeModel", "nameOf", "(I)I"⟩ prog_14_method_32_code 1 (some .int)) := rfl
set_option maxRecDepth 100000 in
theorem xm_206 : xgt 1466 = some (.code ⟨"TwoAlikeModel", "one", "()I"⟩ prog_14_method_33_code 5 (some .int)) := rfl
set_option maxRecDepth 100000 in
theorem xm_207 : xgt 1442 = some (.code ⟨"TwoAlikeModel", "workOut", "(II)I"⟩ prog_14_method_34_code 8 (some .int)) := rfl
set_option maxRecDepth 100000 in
theorem xm_208 : xgt 1438 = some (.code ⟨"TwoAlikeModel", "law", "()I"⟩ prog_14_method_35_code 4 (some .int)) := rfl
set_option maxRecDepth 100000 in
theorem xm_209 : xgt 1500 = some (.code ⟨"TwoAlikeModel", "areAlike", "(IIII)Z"⟩ prog_14_method_36_code 6 (some .boolean)) := rfl
set_option maxRecDepth 100000 in
theorem xm_210 : xgt 1496 = some (.code ⟨"TwoAlikeModel", "hatBit", "(I)I"⟩ prog_14_method_37_code 1 (some .int)) := rfl
set_option maxRecDepth 100000 in
theorem xm_211 : xgt 1493 = some (.code ⟨"TwoAlikeModel", "isAlike", "(II)Z"⟩ prog_14_method_38_code 3 (some .boolean)) := rfl
set_option maxRecDepth 100000 in
theorem xm_212 : xgt 1485 = some (.code ⟨"TwoAlikeModel", "alike", "(I)I"⟩ prog_14_method_39_code 2 (some .int)) := rfl
set_option maxRecDepth 100000 in
theorem xm_213 : xgt 1515 = some (.code ⟨"TwoAlikeModel", "asksLikes", "()V"⟩ prog_14_method_40_code 3 none) := rfl
set_option maxRecDepth 100000 in
theorem xm_214 : xgt 1527 = some (.code ⟨"TwoAlikeModel", "isShut", "(III)Z"⟩ prog_14_method_41_code 5 (some .boolean)) := rfl
set_option maxRecDepth 100000 in
theorem xm_215 : xgt 1523 = some (.code ⟨"TwoAlikeModel", "begins1", "(III)I"⟩ prog_14_method_42_code 8 (some .int)) := rfl
set_option maxRecDepth 100000 in
theorem xm_216 : xgt 1519 = some (.code ⟨"TwoAlikeModel", "plansOne", "(I)V"⟩ prog_14_method_43_code 6 none) := rfl
set_option maxRecDepth 100000 in
theorem xm_217 : xgt 1511 = some (.code ⟨"TwoAlikeModel", "plansNow", "(I)V"⟩ prog_14_method_44_code 3 none) := rfl
set_option maxRecDepth 100000 in
theorem xm_218 : xgt 1535 = some (.code ⟨"TwoAlikeModel", "costOf", "(I)I"⟩ prog_14_method_45_code 2 (some .int)) := rfl
set_option maxRecDepth 100000 in
theorem xm_219 : xgt 1531 = some (.code ⟨"TwoAlikeModel", "allWaited", "()I"⟩ prog_14_method_46_code 3 (some .int)) := rfl
set_option maxRecDepth 100000 in
theorem xm_220 : xgt 1507 = some (.code ⟨"TwoAlikeModel", "plan", "()I"⟩ prog_14_method_47_code 3 (some .int)) := rfl
set_option maxRecDepth 100000 in
theorem xm_221 : xgt 1539 = some (.code ⟨"TwoAlikeModel", "where", "(II)I"⟩ prog_14_method_48_code 3 (some .int)) := rfl
set_option maxRecDepth 100000 in
theorem xm_222 : xgt 1544 = some (.code ⟨"TwoAlikeModel", "waited", "(II)I"⟩ prog_14_method_49_code 3 (some .int)) := rfl
set_option maxRecDepth 100000 in
theorem xm_223 : xgt 1552 = some (.code ⟨"TwoAlikeModel", "ordersOn", "(III)V"⟩ prog_14_method_50_code 5 none) := rfl
set_option maxRecDepth 100000 in
theorem xm_224 : xgt 1548 = some (.code ⟨"TwoAlikeModel", "best", "(I)I"⟩ prog_14_method_51_code 2 (some .int)) := rfl
set_option maxRecDepth 100000 in
theorem xm_225 : xgt 1556 = some (.code ⟨"TwoAlikeModel", "bars", "(I)I"⟩ prog_14_method_52_code 5 (some .int)) := rfl
set_option maxRecDepth 100000 in
theorem xm_226 : xgt 1560 = some (.code ⟨"TwoAlikeModel", "led", "(II)I"⟩ prog_14_method_53_code 3 (some .int)) := rfl
set_option maxRecDepth 100000 in
theorem xm_227 : xgt 1571 = some (.code ⟨"TwoAlikeModel", "clashAt", "(IIII)I"⟩ prog_14_method_54_code 4 (some .int)) := rfl
set_option maxRecDepth 100000 in
theorem xm_228 : xgt 1579 = some (.code ⟨"TwoAlikeModel", "mayWear", "(II)Z"⟩ prog_14_method_55_code 3 (some .boolean)) := rfl
set_option maxRecDepth 100000 in
theorem xm_229 : xgt 1568 = some (.code ⟨"TwoAlikeModel", "asksHats", "()V"⟩ prog_14_method_56_code 6 none) := rfl
set_option maxRecDepth 100000 in
theorem xm_230 : xgt 1575 = some (.code ⟨"TwoAlikeModel", "wearsFrom", "(II)Z"⟩ prog_14_method_57_code 6 (some .boolean)) := rfl
set_option maxRecDepth 100000 in
theorem xm_231 : xgt 1564 = some (.code ⟨"TwoAlikeModel", "hats", "(I)I"⟩ prog_14_method_58_code 3 (some .int)) := rfl
set_option maxRecDepth 100000 in
theorem xm_232 : xgt 1583 = some (.code ⟨"TwoAlikeModel", "needs", "()I"⟩ prog_14_method_59_code 3 (some .int)) := rfl
set_option maxRecDepth 100000 in
theorem xm_233 : xgt 1591 = some (.code ⟨"TwoAlikeModel", "isKind", "(I)Z"⟩ prog_14_method_60_code 3 (some .boolean)) := rfl
set_option maxRecDepth 100000 in
theorem xm_234 : xgt 1587 = some (.code ⟨"TwoAlikeModel", "kinds", "(I)I"⟩ prog_14_method_61_code 4 (some .int)) := rfl
set_option maxRecDepth 100000 in
theorem xm_235 : xgt 1595 = some (.code ⟨"TwoAlikeModel", "pass", "(I)I"⟩ prog_14_method_62_code 5 (some .int)) := rfl
set_option maxRecDepth 100000 in
theorem xm_236 : xgt 1599 = some (.code ⟨"TwoAlikeModel", "go", "(III)I"⟩ prog_14_method_63_code 5 (some .int)) := rfl
set_option maxRecDepth 100000 in
theorem xm_237 : xgt 1605 = some (.code ⟨"TwoAlikeModel", "judge", "(I)I"⟩ prog_14_method_64_code 6 (some .int)) := rfl
set_option maxRecDepth 100000 in
theorem xm_238 : xgt 1610 = some (.code ⟨"TwoAlikeModel", "watch", "(II)I"⟩ prog_14_method_65_code 8 (some .int)) := rfl
set_option maxRecDepth 100000 in
theorem xm_239 : xgt 1614 = some (.code ⟨"TwoAlikeModel", "sight", "(II)I"⟩ prog_14_method_66_code 3 (some .int)) := rfl
set_option maxRecDepth 100000 in
theorem xm_240 : xgt 1622 = some (.code ⟨"TwoAlikeModel", "doBar", "(III)Z"⟩ prog_14_method_67_code 6 (some .boolean)) := rfl
set_option maxRecDepth 100000 in
theorem xm_241 : xgt 1626 = some (.code ⟨"TwoAlikeModel", "isOne", "(I)Z"⟩ prog_14_method_68_code 3 (some .boolean)) := rfl
set_option maxRecDepth 100000 in
theorem xm_242 : xgt 1618 = some (.code ⟨"TwoAlikeModel", "atLeast", "(I)I"⟩ prog_14_method_69_code 5 (some .int)) := rfl
set_option maxRecDepth 100000 in
theorem xm_243 : xgt 1638 = some (.code ⟨"TwoAlikeModel", "canBe", "(II)Z"⟩ prog_14_method_70_code 4 (some .boolean)) := rfl
set_option maxRecDepth 100000 in
theorem xm_244 : xgt 1634 = some (.code ⟨"TwoAlikeModel", "whoIs", "(I)I"⟩ prog_14_method_71_code 4 (some .int)) := rfl
set_option maxRecDepth 100000 in
theorem xm_245 : xgt 1630 = some (.code ⟨"TwoAlikeModel", "who", "(I)I"⟩ prog_14_method_72_code 2 (some .int)) := rfl
set_option maxRecDepth 100000 in
theorem xm_246 : xgt 1642 = some (.code ⟨"TwoAlikeModel", "gone", "(II)I"⟩ prog_14_method_73_code 6 (some .int)) := rfl
set_option maxRecDepth 100000 in
theorem xm_247 : xgt 1646 = some (.code ⟨"TwoAlikeModel", "months", "(I)I"⟩ prog_14_method_74_code 8 (some .int)) := rfl
set_option maxRecDepth 100000 in
theorem xm_248 : xgt 1651 = some (.code ⟨"TwoAlikeModel", "turn", "()I"⟩ prog_14_method_75_code 2 (some .int)) := rfl
set_option maxRecDepth 100000 in
theorem xm_249 : xgt 1655 = some (.code ⟨"TwoAlikeModel", "image", "()I"⟩ prog_14_method_76_code 2 (some .int)) := rfl
set_option maxRecDepth 100000 in
theorem xm_250 : xgt 1659 = some (.code ⟨"TwoAlikeModel", "back", "()I"⟩ prog_14_method_77_code 2 (some .int)) := rfl
set_option maxRecDepth 100000 in
theorem xm_251 : xgt 1742 = some (.code ⟨"TwoAlikeModel", "allErrands", "()I"⟩ prog_14_method_78_code 3 (some .int)) := rfl
set_option maxRecDepth 100000 in
theorem xm_252 : xgt 1671 = some (.code ⟨"TwoAlikeModel", "isBody", "(I)Z"⟩ prog_14_method_79_code 2 (some .boolean)) := rfl
set_option maxRecDepth 100000 in
theorem xm_253 : xgt 1731 = some (.code ⟨"TwoAlikeModel", "kindOf", "(I)I"⟩ prog_14_method_80_code 2 (some .int)) := rfl
set_option maxRecDepth 100000 in
theorem xm_254 : xgt 1663 = some (.code ⟨"TwoAlikeModel", "body", "(I)I"⟩ prog_14_method_81_code 2 (some .int)) := rfl
set_option maxRecDepth 100000 in
theorem xm_255 : xgt 1734 = some (.code ⟨"TwoAlikeModel", "above", "(I)I"⟩ prog_14_method_82_code 1 (some .int)) := rfl
set_option maxRecDepth 100000 in
theorem xm_256 : xgt 1679 = some (.code ⟨"TwoAlikeModel", "begins", "(I)V"⟩ prog_14_method_83_code 2 none) := rfl
set_option maxRecDepth 100000 in
theorem xm_257 : xgt 1675 = some (.code ⟨"TwoAlikeModel", "looksAs", "(II)I"⟩ prog_14_method_84_code 3 (some .int)) := rfl
set_option maxRecDepth 100000 in
theorem xm_258 : xgt 1683 = some (.code ⟨"TwoAlikeModel", "walksAs", "(II)I"⟩ prog_14_method_85_code 4 (some .int)) := rfl
set_option maxRecDepth 100000 in
theorem xm_259 : xgt 1687 = some (.code ⟨"TwoAlikeModel", "waitsAs", "(II)I"⟩ prog_14_method_86_code 4 (some .int)) := rfl
set_option maxRecDepth 100000 in
theorem xm_260 : xgt 1691 = some (.code ⟨"TwoAlikeModel", "tellsAs", "(II)I"⟩ prog_14_method_87_code 4 (some .int)) := rfl
set_option maxRecDepth 100000 in
theorem xm_261 : xgt 1667 = some (.code ⟨"TwoAlikeModel", "act", "(III)I"⟩ prog_14_method_88_code 4 (some .int)) := rfl
set_option maxRecDepth 100000 in
theorem xm_262 : xgt 1695 = some (.code ⟨"TwoAlikeModel", "trace", "(I)I"⟩ prog_14_method_89_code 2 (some .int)) := rfl
set_option maxRecDepth 100000 in
theorem xm_263 : xgt 1375 = some (.code ⟨"TwoAlikeModel", "isShelf", "(I)Z"⟩ prog_14_method_90_code 1 (some .boolean)) := rfl
set_option maxRecDepth 100000 in
theorem xm_264 : xgt 1699 = some (.code ⟨"TwoAlikeModel", "keep", "(II)I"⟩ prog_14_method_91_code 3 (some .int)) := rfl
set_option maxRecDepth 100000 in
theorem xm_265 : xgt 1703 = some (.code ⟨"TwoAlikeModel", "row", "(III)I"⟩ prog_14_method_92_code 5 (some .int)) := rfl
set_option maxRecDepth 100000 in
theorem xm_266 : xgt 1711 = some (.code ⟨"TwoAlikeModel", "refusal", "(II)I"⟩ prog_14_method_93_code 3 (some .int)) := rfl
set_option maxRecDepth 100000 in
theorem xm_267 : xgt 1714 = some (.code ⟨"TwoAlikeModel", "asSort", "(IJ)J"⟩ prog_14_method_94_code 3 (some .long)) := rfl
set_option maxRecDepth 100000 in
theorem xm_268 : xgt 1707 = some (.code ⟨"TwoAlikeModel", "put", "(IIJ)I"⟩ prog_14_method_95_code 6 (some .int)) := rfl
set_option maxRecDepth 100000 in
theorem xm_269 : xgt 1718 = some (.code ⟨"TwoAlikeModel", "element", "(II)J"⟩ prog_14_method_96_code 3 (some .long)) := rfl
set_option maxRecDepth 100000 in
theorem xm_270 : xgt 1723 = some (.code ⟨"TwoAlikeModel", "shift", "(IIIII)I"⟩ prog_14_method_97_code 7 (some .int)) := rfl
set_option maxRecDepth 100000 in
theorem xm_271 : xgt 1727 = some (.code ⟨"TwoAlikeModel", "taken", "(II)I"⟩ prog_14_method_98_code 4 (some .int)) := rfl
set_option maxRecDepth 100000 in
theorem xm_272 : xgt 1738 = some (.code ⟨"TwoAlikeModel", "count", "(I)I"⟩ prog_14_method_99_code 2 (some .int)) := rfl
set_option maxRecDepth 100000 in
theorem xm_273 : xgt 725 = some (.code ⟨"java/lang/Integer", "bitCount", "(I)I"⟩ prog_15_method_49_code 1 (some .int)) := rfl
set_option maxRecDepth 100000 in
theorem xm_274 : xgt 734 = some (.code ⟨"java/lang/Math", "max", "(II)I"⟩ prog_16_method_65_code 2 (some .int)) := rfl
set_option maxRecDepth 100000 in
theorem xm_275 : xgt 731 = some (.code ⟨"java/lang/Math", "min", "(II)I"⟩ prog_16_method_69_code 2 (some .int)) := rfl
def xml : List xQ → List xNt → Prop
  | [_], [_] => True
  | q :: a, y :: b => xgt y.2.2.2.1 = some (.code y.1 y.2.1 q.2.1 y.2.2.1) ∧ xml a b
  | _, _ => False
set_option maxRecDepth 100000 in
theorem xm_all : xml xM xN := ⟨xm_0, xm_1, xm_2, xm_3, xm_4, xm_5, xm_6, xm_7, xm_8, xm_9, xm_10, xm_11, xm_12, xm_13, xm_14, xm_15, xm_16, xm_17, xm_18, xm_19, xm_20, xm_21, xm_22, xm_23, xm_24, xm_25, xm_26, xm_27, xm_28, xm_29, xm_30, xm_31, xm_32, xm_33, xm_34, xm_35, xm_36, xm_37, xm_38, xm_39, xm_40, xm_41, xm_42, xm_43, xm_44, xm_45, xm_46, xm_47, xm_48, xm_49, xm_50, xm_51, xm_52, xm_53, xm_54, xm_55, xm_56, xm_57, xm_58, xm_59, xm_60, xm_61, xm_62, xm_63, xm_64, xm_65, xm_66, xm_67, xm_68, xm_69, xm_70, xm_71, xm_72, xm_73, xm_74, xm_75, xm_76, xm_77, xm_78, xm_79, xm_80, xm_81, xm_82, xm_83, xm_84, xm_85, xm_86, xm_87, xm_88, xm_89, xm_90, xm_91, xm_92, xm_93, xm_94, xm_95, xm_96, xm_97, xm_98, xm_99, xm_100, xm_101, xm_102, xm_103, xm_104, xm_105, xm_106, xm_107, xm_108, xm_109, xm_110, xm_111, xm_112, xm_113, xm_114, xm_115, xm_116, xm_117, xm_118, xm_119, xm_120, xm_121, xm_122, xm_123, xm_124, xm_125, xm_126, xm_127, xm_128, xm_129, xm_130, xm_131, xm_132, xm_133, xm_134, xm_135, xm_136, xm_137, xm_138, xm_139, xm_140, xm_141, xm_142, xm_143, xm_144, xm_145, xm_146, xm_147, xm_148, xm_149, xm_150, xm_151, xm_152, xm_153, xm_154, xm_155, xm_156, xm_157, xm_158, xm_159, xm_160, xm_161, xm_162, xm_163, xm_164, xm_165, xm_166, xm_167, xm_168, xm_169, xm_170, xm_171, xm_172, xm_173, xm_174, xm_175, xm_176, xm_177, xm_178, xm_179, xm_180, xm_181, xm_182, xm_183, xm_184, xm_185, xm_186, xm_187, xm_188, xm_189, xm_190, xm_191, xm_192, xm_193, xm_194, xm_195, xm_196, xm_197, xm_198, xm_199, xm_200, xm_201, xm_202, xm_203, xm_204, xm_205, xm_206, xm_207, xm_208, xm_209, xm_210, xm_211, xm_212, xm_213, xm_214, xm_215, xm_216, xm_217, xm_218, xm_219, xm_220, xm_221, xm_222, xm_223, xm_224, xm_225, xm_226, xm_227, xm_228, xm_229, xm_230, xm_231, xm_232, xm_233, xm_234, xm_235, xm_236, xm_237, xm_238, xm_239, xm_240, xm_241, xm_242, xm_243, xm_244, xm_245, xm_246, xm_247, xm_248, xm_249, xm_250, xm_251, xm_252, xm_253, xm_254, xm_255, xm_256, xm_257, xm_258, xm_259, xm_260, xm_261, xm_262, xm_263, xm_264, xm_265, xm_266, xm_267, xm_268, xm_269, xm_270, xm_271, xm_272, xm_273, xm_274, xm_275, trivial⟩
def xdl : List xQ → List xNt → Prop
  | q :: a, y :: b => xdc y.2.1 q.2.2.2.2 = true ∧ xdl a b
  | [], [] => True
  | _, _ => False
set_option maxRecDepth 100000 in
theorem xd_all : xdl xM xN := ⟨xd_0, xd_1, xd_2, xd_3, xd_4, xd_5, xd_6, xd_7, xd_8, xd_9, xd_10, xd_11, xd_12, xd_13, xd_14, xd_15, xd_16, xd_17, xd_18, xd_19, xd_20, xd_21, xd_22, xd_23, xd_24, xd_25, xd_26, xd_27, xd_28, xd_29, xd_30, xd_31, xd_32, xd_33, xd_34, xd_35, xd_36, xd_37, xd_38, xd_39, xd_40, xd_41, xd_42, xd_43, xd_44, xd_45, xd_46, xd_47, xd_48, xd_49, xd_50, xd_51, xd_52, xd_53, xd_54, xd_55, xd_56, xd_57, xd_58, xd_59, xd_60, xd_61, xd_62, xd_63, xd_64, xd_65, xd_66, xd_67, xd_68, xd_69, xd_70, xd_71, xd_72, xd_73, xd_74, xd_75, xd_76, xd_77, xd_78, xd_79, xd_80, xd_81, xd_82, xd_83, xd_84, xd_85, xd_86, xd_87, xd_88, xd_89, xd_90, xd_91, xd_92, xd_93, xd_94, xd_95, xd_96, xd_97, xd_98, xd_99, xd_100, xd_101, xd_102, xd_103, xd_104, xd_105, xd_106, xd_107, xd_108, xd_109, xd_110, xd_111, xd_112, xd_113, xd_114, xd_115, xd_116, xd_117, xd_118, xd_119, xd_120, xd_121, xd_122, xd_123, xd_124, xd_125, xd_126, xd_127, xd_128, xd_129, xd_130, xd_131, xd_132, xd_133, xd_134, xd_135, xd_136, xd_137, xd_138, xd_139, xd_140, xd_141, xd_142, xd_143, xd_144, xd_145, xd_146, xd_147, xd_148, xd_149, xd_150, xd_151, xd_152, xd_153, xd_154, xd_155, xd_156, xd_157, xd_158, xd_159, xd_160, xd_161, xd_162, xd_163, xd_164, xd_165, xd_166, xd_167, xd_168, xd_169, xd_170, xd_171, xd_172, xd_173, xd_174, xd_175, xd_176, xd_177, xd_178, xd_179, xd_180, xd_181, xd_182, xd_183, xd_184, xd_185, xd_186, xd_187, xd_188, xd_189, xd_190, xd_191, xd_192, xd_193, xd_194, xd_195, xd_196, xd_197, xd_198, xd_199, xd_200, xd_201, xd_202, xd_203, xd_204, xd_205, xd_206, xd_207, xd_208, xd_209, xd_210, xd_211, xd_212, xd_213, xd_214, xd_215, xd_216, xd_217, xd_218, xd_219, xd_220, xd_221, xd_222, xd_223, xd_224, xd_225, xd_226, xd_227, xd_228, xd_229, xd_230, xd_231, xd_232, xd_233, xd_234, xd_235, xd_236, xd_237, xd_238, xd_239, xd_240, xd_241, xd_242, xd_243, xd_244, xd_245, xd_246, xd_247, xd_248, xd_249, xd_250, xd_251, xd_252, xd_253, xd_254, xd_255, xd_256, xd_257, xd_258, xd_259, xd_260, xd_261, xd_262, xd_263, xd_264, xd_265, xd_266, xd_267, xd_268, xd_269, xd_270, xd_271, xd_272, xd_273, xd_274, xd_275, xd_276, trivial⟩
end
section
/-! a pure machine over numbered cells: what one step does, and a run with fuel and depth -/
abbrev xL : Type := List (Nat × Value)
abbrev xE : Type := Nat × List Value
abbrev xH : Type := List xE
def xr (own : Nat) : String := (xR[own]?).getD ""
def xfd {α : Type} : List (Nat × α) → Nat → Option α
  | [], _ => none
  | q :: r, k => bif Nat.beq q.1 k then some q.2 else xfd r k
def xtb {α : Type} (t : List (List (Nat × α))) (own idx : Nat) : Option α := match t[own]? with
  | some l => xfd l idx
  | none => none
def xcg (c : xK) (pc : Nat) : Option Instr := match c[pc / 16]? with
  | some ch => xfd ch pc
  | none => none
/-- locals after a store of one slot, of two -/
def xs_1 (ls : xL) (i : Nat) (v : Value) : xL := (i, v) :: ls.filter (fun q => !(q.1 == i) && !(q.1 + 1 == i && q.2.category == 2))
def xs_2 (ls : xL) (i : Nat) (v : Value) : xL := (i, v) :: ls.filter (fun q => !(q.1 == i) && (!(q.1 == i + 1) && !(q.1 + 1 == i && q.2.category == 2)))
def xldi (ls : xL) (k : Nat) : Option Int32 := match xfd ls k with
  | some (.int x) => some x
  | _ => none
def xldl (ls : xL) (k : Nat) : Option Int64 := match xfd ls k with
  | some (.long x) => some x
  | _ => none
def xlda (ls : xL) (k : Nat) : Option Value := match xfd ls k with
  | some (.ref x) => some (.ref x)
  | some (.retAddr x) => some (.retAddr x)
  | _ => none
/-- what touches locals and stack alone -/
def xs1 (own nL : Nat) (i : Instr) (ls : xL) (st : List Value) : Option (xL × List Value) := match i, st with
  | .iconst n, st => some (ls, .int (Int32.ofInt n) :: st)
  | .bipush n, st => some (ls, .int (Int8.ofInt n).toInt32 :: st)
  | .sipush n, st => some (ls, .int (Int16.ofInt n).toInt32 :: st)
  | .lconst n, st => some (ls, .long (Int64.ofNat (n : Nat)) :: st)
  | .ldc k, st => (xtb xI own k).map fun v => (ls, .int v.1 :: st)
  | .ldc_w k, st => (xtb xI own k).map fun v => (ls, .int v.1 :: st)
  | .ldc2_w k, st => (xtb xJ own k).map fun v => (ls, .long v.1 :: st)
  | .iload_n k, st => (xldi ls k).map fun v => (ls, .int v :: st)
  | .iload k, st => (xldi ls k).map fun v => (ls, .int v :: st)
  | .lload_n k, st => (xldl ls k).map fun v => (ls, .long v :: st)
  | .lload k, st => (xldl ls k).map fun v => (ls, .long v :: st)
  | .aload_n k, st => (xlda ls k).map fun v => (ls, v :: st)
  | .aload k, st => (xlda ls k).map fun v => (ls, v :: st)
  | .istore_n k, .int x :: st => bif Nat.blt k nL then some (xs_1 ls k (.int x), st) else none
  | .istore k, .int x :: st => bif Nat.blt k nL then some (xs_1 ls k (.int x), st) else none
  | .astore_n k, .ref x :: st => bif Nat.blt k nL then some (xs_1 ls k (.ref x), st) else none
  | .lstore_n k, .long x :: st => bif Nat.blt (k + 1) nL then some (xs_2 ls k (.long x), st) else none
  | .lstore k, .long x :: st => bif Nat.blt (k + 1) nL then some (xs_2 ls k (.long x), st) else none
  | .iinc k n, st => match xldi ls k with
    | some x => bif Nat.blt k nL then some (xs_1 ls k (.int (x + Int32.ofInt n)), st) else none
    | none => none
  | .iadd, .int y :: .int x :: st => some (ls, .int (x + y) :: st)
  | .isub, .int y :: .int x :: st => some (ls, .int (x - y) :: st)
  | .imul, .int y :: .int x :: st => some (ls, .int (x * y) :: st)
  | .idiv, .int y :: .int x :: st => if y = 0 then none else some (ls, .int (x / y) :: st)
  | .irem, .int y :: .int x :: st => if y = 0 then none else some (ls, .int (x - x / y * y) :: st)
  | .ineg, .int x :: st => some (ls, .int (-x) :: st)
  | .iand, .int y :: .int x :: st => some (ls, .int (x &&& y) :: st)
  | .ior, .int y :: .int x :: st => some (ls, .int (x ||| y) :: st)
  | .ixor, .int y :: .int x :: st => some (ls, .int (x ^^^ y) :: st)
  | .ishl, .int y :: .int x :: st => some (ls, .int (x <<< (y &&& 31)) :: st)
  | .ishr, .int y :: .int x :: st => some (ls, .int (x >>> (y &&& 31)) :: st)
  | .iushr, .int y :: .int x :: st => some (ls, .int (x.toUInt32 >>> (y.toUInt32 &&& Int32.toUInt32 31)).toInt32 :: st)
  | .i2l, .int x :: st => some (ls, .long x.toInt64 :: st)
  | .l2i, .long x :: st => some (ls, .int x.toInt32 :: st)
  | .i2b, .int x :: st => some (ls, .int x.toInt8.toInt32 :: st)
  | .i2s, .int x :: st => some (ls, .int x.toInt16.toInt32 :: st)
  | .lshl, .int y :: .long x :: st => some (ls, .long (x <<< (y.toInt64 &&& 63)) :: st)
  | .lor, .long y :: .long x :: st => some (ls, .long (x ||| y) :: st)
  | .land, .long y :: .long x :: st => some (ls, .long (x &&& y) :: st)
  | .lcmp, .long y :: .long x :: st => some (ls, .int (lg_cmp x y) :: st)
  | .dup, v :: st => if v.category = 1 then some (ls, v :: v :: st) else none
  | .pop, v :: st => if v.category = 1 then some (ls, st) else none
  | .dup2, v :: u :: st => if v.category = 1 ∧ u.category = 1 then some (ls, v :: u :: v :: u :: st) else none
  | .pop2, v :: st => if v.category = 2 then some (ls, st) else none
  | _, _ => none
def xtg (pc : Nat) (o : Int) : Option Nat := match (pc : Int) + o with
  | .ofNat t => some t
  | .negSucc _ => none
def xcmp (c : ClassFile.Cond) (x y : Int32) : Bool := match c with
  | .eq => decide (x = y)
  | .ne => decide (¬ x = y)
  | .lt => decide (x < y)
  | .ge => decide (y ≤ x)
  | .gt => decide (y < x)
  | .le => decide (x ≤ y)
/-- jumps -/
def xbr (i : Instr) (pc : Nat) (st : List Value) : Option (Nat × List Value) := match i, st with
  | .goto o, st => (xtg pc o).map fun t => (t, st)
  | .ifCond c o, .int x :: st => (xtg pc o).map fun t => (bif xcmp c x 0 then t else pc + 3, st)
  | .if_icmp c o, .int y :: .int x :: st => (xtg pc o).map fun t => (bif xcmp c x y then t else pc + 3, st)
  | .tableswitch d lo hi offs, .int x :: st =>
    if x.toInt < lo ∨ hi < x.toInt then (xtg pc d).map fun t => (t, st)
    else match offs[(x.toInt - lo).toNat]? with
      | some o => (xtg pc o).map fun t => (t, st)
      | none => none
  | .lookupswitch d ps, .int x :: st =>
    bif (ps.toList.zip (ps.toList.drop 1)).all (fun (a, next) => a.1 < next.1) then (xtg pc (Op.lookupswitch.offset ps.toList d x.toInt)).map fun t => (t, st) else none
  | _, _ => none
/-- does a field of this sort take this value -/
def xfit (c : Nat) (v : Value) : Bool := match c % 10, v with
  | 0, .int _ => true
  | 1, .int x => x == 0 || x == 1
  | 2, .long _ => true
  | 3, .ref _ => true
  | 4, .ref _ => true
  | _, _ => false
/-- what touches the cells -/
def xho (ro : List (List Int32)) (own kind : Nat) (i : Instr) (st : List Value) (h : xH) : Option (List Value × xH) := match i, st with
  | .getfield idx, .ref r :: st => match xtb xF own idx, h[r]? with
    | some (ci, k, _), some (t, fs) => bif Nat.beq t ci then (fs[k]?).map fun v => (v :: st, h) else none
    | _, _ => none
  | .putfield idx, v :: .ref r :: st => match xtb xF own idx, h[r]? with
    | some (ci, k, _), some (t, fs) => bif Nat.beq t ci && Nat.blt k fs.length then
        match xT[ci]? with
        | some cs => match cs[k]? with
          | some c => bif xfit c v && (Nat.blt c 10 || (Nat.beq kind 2 && Nat.beq ci own)) then some (st, h.set r (t, fs.set k v)) else none
          | none => none
        | none => none
      else none
    | _, _ => none
  | .iaload, .int j :: .ref r :: st => match h[r]? with
    | some (t, vs) => bif Nat.beq t 100 then if j < 0 then none else match vs[j.toNatClampNeg]? with
        | some (.int x) => some (.int x :: st, h)
        | _ => none
      else none
    | none => none
  | .iaload, .int j :: .retAddr q :: st => match ro[q]? with
    | some xs => if j < 0 then none else (xs[j.toNatClampNeg]?).map fun x => (.int x :: st, h)
    | none => none
  | .baload, .int j :: .ref r :: st => match h[r]? with
    | some (t, vs) => bif Nat.beq t 101 then if j < 0 then none else match vs[j.toNatClampNeg]? with
        | some (.int x) => some (.int x :: st, h)
        | _ => none
      else none
    | none => none
  | .laload, .int j :: .ref r :: st => match h[r]? with
    | some (t, vs) => bif Nat.beq t 102 then if j < 0 then none else match vs[j.toNatClampNeg]? with
        | some (.long x) => some (.long x :: st, h)
        | _ => none
      else none
    | none => none
  | .iastore, .int x :: .int j :: .ref r :: st => match h[r]? with
    | some (t, vs) => bif Nat.beq t 100 && Nat.blt j.toNatClampNeg vs.length then if j < 0 then none else some (st, h.set r (t, vs.set j.toNatClampNeg (.int x))) else none
    | none => none
  | .bastore, .int x :: .int j :: .ref r :: st => match h[r]? with
    | some (t, vs) => bif Nat.beq t 101 && Nat.blt j.toNatClampNeg vs.length && (x == 0 || x == 1) then if j < 0 then none else some (st, h.set r (t, vs.set j.toNatClampNeg (.int x))) else none
    | none => none
  | .lastore, .long x :: .int j :: .ref r :: st => match h[r]? with
    | some (t, vs) => bif Nat.beq t 102 && Nat.blt j.toNatClampNeg vs.length then if j < 0 then none else some (st, h.set r (t, vs.set j.toNatClampNeg (.long x))) else none
    | none => none
  | .arraylength, .retAddr q :: st => bif Nat.beq q 0 then (ro[q]?).map fun xs => (.int (Int32.ofNat xs.length) :: st, h) else none
  | .arraylength, .ref r :: st => match h[r]? with
    | some (t, vs) => bif Nat.beq t 100 then some (.int (Int32.ofNat vs.length) :: st, h) else none
    | none => none
  | .getstatic idx, st => (xtb xG own idx).map fun k => (.retAddr k.1 :: st, h)
  | .new idx, st => match xtb xW own idx with
    | some (ci, _) => (xD[ci]?).map fun fs => (.ref h.length :: st, h ++ [(ci, fs)])
    | none => none
  | .newarray .int, .int n :: st => if n < 0 ∨ 100000 < n.toNatClampNeg then none else some (.ref h.length :: st, h ++ [(100, List.replicate n.toNatClampNeg (.int 0))])
  | .newarray .boolean, .int n :: st => if n < 0 ∨ 100000 < n.toNatClampNeg then none else some (.ref h.length :: st, h ++ [(101, List.replicate n.toNatClampNeg (.int 0))])
  | .newarray .long, .int n :: st => if n < 0 ∨ 100000 < n.toNatClampNeg then none else some (.ref h.length :: st, h ++ [(102, List.replicate n.toNatClampNeg (.long 0))])
  | _, _ => none
/-- ends -/
def xrt (ret : Nat) (i : Instr) (st : List Value) : Option (Option Value) := match i, st with
  | .return_, [] => bif Nat.beq ret 0 then some none else none
  | .ireturn, [.int x] => bif Nat.beq ret 1 then some (some (.int x)) else bif Nat.beq ret 2 && (x == 0 || x == 1) then some (some (.int x)) else none
  | .lreturn, [.long x] => bif Nat.beq ret 3 then some (some (.long x)) else none
  | _, _ => none
def xtk : Nat → List Value → List Value → Option (List Value × List Value)
  | 0, as, st => some (as, st)
  | n + 1, as, v :: st => xtk n (v :: as) st
  | _ + 1, _, [] => none
def xcs (l : List Value) : Nat := (l.map fun v => v.category).sum
/-- calls: the method, its arguments, the stack below -/
def xca (own : Nat) (i : Instr) (st : List Value) (h : xH) : Option (Nat × List Value × List Value) := match i with
  | .invokevirtual idx => match xtb xC own idx with
    | some (y, n, _, nest) => match xM[y]?, xtk n [] st with
      | some (o, _, kind, _), some (as, .ref r :: rest) => match h[r]? with
        | some (t, _) => bif Nat.blt y xOw && Nat.beq kind 1 && Nat.beq nest 0 && Nat.beq t o && Nat.blt t 13 then some (y, .ref r :: as, rest) else none
        | none => none
      | _, _ => none
    | none => none
  | .invokestatic idx => match xtb xC own idx with
    | some (y, n, _, nest) => match xM[y]?, xtk n [] st with
      | some (_, _, kind, _), some (as, rest) => bif Nat.blt y xOw && Nat.beq kind 0 && Nat.beq nest 0 then some (y, as, rest) else none
      | _, _ => none
    | none => none
  | .invokespecial idx => match xtb xC own idx with
    | some (y, n, _, _) => match xM[y]?, xtk n [] st with
      | some (_, _, kind, _), some (as, .ref r :: rest) => bif Nat.blt y xOw && Nat.beq kind 2 then some (y, .ref r :: as, rest) else none
      | _, _ => none
    | none => none
  | _ => none
/-- Object's own beginning: does nothing -/
def xob (own : Nat) (i : Instr) (st : List Value) : Option (List Value) := match i, st with
  | .invokespecial idx, .ref _ :: rest => match xtb xC own idx with
    | some (y, _) => bif Nat.beq y 9999 then some rest else none
    | none => none
  | _, _ => none
/-- the greater, the less of two -/
def xmm (own : Nat) (i : Instr) (st : List Value) : Option (List Value) := match i, st with
  | .invokestatic idx, .int y :: .int x :: rest => match xtb xC own idx with
    | some (m, _, _, nest) => bif Nat.beq nest 0 then (bif Nat.beq m xMx then some (.int (if x < y then y else x) :: rest) else bif Nat.beq m xMn then some (.int (if y < x then y else x) :: rest) else none) else none
    | none => none
  | _, _ => none
/-- System.arraycopy, rows of longs -/
def xcpy (vs ws : List Value) (sp dp n : Nat) : List Value := (List.range ws.length).map fun k => if dp ≤ k ∧ k < dp + n then vs.getD (sp + (k - dp)) .null else ws.getD k .null
def xay (own : Nat) (i : Instr) (st : List Value) (h : xH) : Option (List Value × xH) := match i, st with
  | .invokestatic idx, .int n :: .int dp :: .ref rd :: .int sp :: .ref rs :: rest => match xtb xY own idx, h[rs]?, h[rd]? with
    | some _, some (t0, vs), some (t1, ws) => bif Nat.beq t0 102 && Nat.beq t1 102 && Nat.ble (sp.toNatClampNeg + n.toNatClampNeg) vs.length && Nat.ble (dp.toNatClampNeg + n.toNatClampNeg) ws.length then
        if sp < 0 ∨ dp < 0 ∨ n < 0 then none else some (rest, h.set rd (102, xcpy vs ws sp.toNatClampNeg dp.toNatClampNeg n.toNatClampNeg))
      else none
    | _, _, _ => none
  | _, _ => none
def ev (ro : List (List Int32)) : Nat → Nat → xQ → Nat → xL → List Value → xH → Option (Option Value × xH)
  | 0, _, _, _, _, _, _ => none
  | n + 1, d, q, pc, ls, st, h => match xcg q.2.2.2.2 pc with
    | none => none
    | some i => match xs1 q.1 q.2.1 i ls st with
      | some (ls', st') => ev ro n d q (pc + xil i) ls' st' h
      | none => match xbr i pc st with
        | some (pc', st') => ev ro n d q pc' ls st' h
        | none => match xho ro q.1 q.2.2.1 i st h with
          | some (st', h') => ev ro n d q (pc + xil i) ls st' h'
          | none => match xrt q.2.2.2.1 i st with
            | some r => some (r, h)
            | none => match d with
              | 0 => none
              | d' + 1 => match xob q.1 i st with
                | some rest => bif Nat.ble (xcs rest) 8 then ev ro n (d' + 1) q (pc + 3) ls rest h else none
                | none => match xmm q.1 i st with
                | some rest => bif Nat.ble (xcs rest) 8 then ev ro n (d' + 1) q (pc + 3) ls rest h else none
                | none => match xay q.1 i st h with
                | some (rest, h') => bif Nat.ble (xcs rest) 8 then ev ro n (d' + 1) q (pc + 3) ls rest h' else none
                | none => match xca q.1 i st h with
                  | none => none
                  | some (y, as, rest) => match xM[y]? with
                    | none => none
                    | some q' => bif Nat.ble (xcs rest) 8 && Nat.ble (xcs as) q'.2.1 then
                        match ev ro n d' q' 0 (lv_args 0 as) [] h with
                        | none => none
                        | some (r, h') => ev ro n (d' + 1) q (pc + 3) ls (r.toList ++ rest) h'
                      else none
end
section
/-! the tables are those of the statement: by deciding -/
theorem xfd_mem {α : Type} : ∀ {l : List (Nat × α)} {k : Nat} {a : α}, xfd l k = some a → (k, a) ∈ l
  | [], _, _, h => by cases h
  | q :: r, k, a, h => by
    unfold xfd at h
    cases hb : Nat.beq q.1 k with
    | true =>
      rw [hb] at h
      have e1 := Nat.eq_of_beq_eq_true hb
      have e2 : q.2 = a := Option.some.inj h
      rw [← e1, ← e2]
      exact List.mem_cons_self
    | false =>
      rw [hb] at h
      exact List.mem_cons_of_mem _ (xfd_mem h)
def xall {α : Type} (P : Nat → Nat → α → Bool) : Nat → List (List (Nat × α)) → Bool
  | _, [] => true
  | o, l :: r => l.all (fun q => P o q.1 q.2) && xall P (o + 1) r
theorem xall_get {α : Type} {P : Nat → Nat → α → Bool} : ∀ {t : List (List (Nat × α))} {o : Nat}, xall P o t = true → ∀ {k : Nat} {l : List (Nat × α)}, t[k]? = some l → ∀ q ∈ l, P (o + k) q.1 q.2 = true
  | [], _, _, _, _, h, _, _ => by simp at h
  | l :: r, o, h, k, l', hk, q, hq => by
    unfold xall at h
    simp only [Bool.and_eq_true] at h
    cases k with
    | zero =>
      simp only [List.getElem?_cons_zero, Option.some.injEq] at hk
      subst hk
      exact List.all_eq_true.mp h.1 q hq
    | succ k =>
      simp only [List.getElem?_cons_succ] at hk
      have := xall_get h.2 hk q hq
      rwa [show o + 1 + k = o + (k + 1) by omega] at this
theorem xtb_ok {α : Type} {P : Nat → Nat → α → Bool} {t : List (List (Nat × α))} (h : xall P 0 t = true) {own idx : Nat} {a : α} (e : xtb t own idx = some a) : P own idx a = true := by
  unfold xtb at e
  split at e
  next l hl => simpa using xall_get h hl _ (xfd_mem e)
  next => cases e
/-- the words that every heap keeps -/
def xB : List Cond := lw_tbl.filter goodWord
def xw (p : Nat) (w : Cond) : Bool := decide (xgt p = some w) && goodWord w
theorem xgt_in {p : Nat} {w : Cond} (h : xgt p = some w) : w ∈ lw_tbl := by
  unfold xgt at h
  split at h
  next l hl => exact xSl_in l (List.mem_of_getElem? hl) w (List.mem_of_getElem? h)
  next => cases h
theorem xw_in {p : Nat} {w : Cond} (h : xw p w = true) : w ∈ xB := by
  unfold xw at h
  simp only [Bool.and_eq_true, decide_eq_true_eq] at h
  exact List.mem_filter.mpr ⟨xgt_in h.1, h.2⟩
theorem xB_good {w : Cond} (h : w ∈ xB) : goodWord w = true := (List.mem_filter.mp h).2
theorem xB_in {w : Cond} (h : w ∈ xB) : w ∈ lw_tbl := (List.mem_filter.mp h).1
def xFc (own idx : Nat) (a : Nat × Nat × Nat) : Bool := match vwCl[a.1]? with
  | some q => Nat.blt a.2.1 q.2.2 && decide ((q.2.1 a.2.1).1 = q.1) && xw a.2.2 (.fieldLink (xr own) idx q.1 (q.2.1 a.2.1).2.1 (q.2.1 a.2.1).2.2.1)
  | none => false
set_option maxRecDepth 100000 in
theorem xF_ok : xall xFc 0 xF = true := by decide +kernel
def xIc (own idx : Nat) (a : Int32 × Nat) : Bool := xw a.2 (.constant (xr own) idx a.1)
def xJc (own idx : Nat) (a : Int64 × Nat) : Bool := xw a.2 (.constantLong (xr own) idx a.1)
set_option maxRecDepth 100000 in
theorem xI_ok : xall xIc 0 xI = true := by decide +kernel
set_option maxRecDepth 100000 in
theorem xJ_ok : xall xJc 0 xJ = true := by decide +kernel
def xtc (c : Nat) (ty : FieldType) : Bool := match c % 10, ty with
  | 0, .int => true
  | 1, .boolean => true
  | 2, .long => true
  | 3, .array _ => true
  | 4, .object _ => true
  | _, _ => false
def xty (ci k : Nat) : FieldType := match xTy[ci]? with
  | some f => f k
  | none => .int
/-- an owner of fields: its words, the types, the names apart, what is new -/
def xKc (ci : Nat) (q : vw_C) (P : List Nat × Nat × Nat) (D : List Value) (S : List Nat) : Bool :=
  ((List.range q.2.2).all fun k =>
    (match P.1[k]? with
      | some p => xw p (u_lay q.1 q.2.1 k)
      | none => false) &&
    decide (parseFieldDescriptor (q.2.1 k).2.2.1 = some (xty ci k)) &&
    (match D[k]? with
      | some v => decide (defaultValue (xty ci k) = v)
      | none => false) &&
    (match S[k]? with
      | some c => xtc c (xty ci k) && decide ((q.2.1 k).2.2.2 = Nat.ble 10 c)
      | none => false) &&
    ((List.range q.2.2).all fun b => Nat.beq k b || decide ((q.2.1 k).2.1 ≠ (q.2.1 b).2.1))) &&
  xw P.2.1 (.instantiable q.1 q.2.2) && xw P.2.2 (.initialized q.1) && decide (D.length = q.2.2) && decide (S.length = q.2.2) && decide (q.1 = xr ci)
def xKall : Nat → List vw_C → List (List Nat × Nat × Nat) → List (List Value) → List (List Nat) → Bool
  | _, [], [], [], [] => true
  | ci, q :: a, P :: b, D :: c, S :: d => xKc ci q P D S && xKall (ci + 1) a b c d
  | _, _, _, _, _ => false
set_option maxRecDepth 100000 in
theorem xK_ok : xKall 0 vwCl xP xD xT = true := by decide +kernel
theorem xKall_get : ∀ {a : List vw_C} {b : List (List Nat × Nat × Nat)} {c : List (List Value)} {d : List (List Nat)} {o : Nat}, xKall o a b c d = true → ∀ {k : Nat} {q : vw_C}, a[k]? = some q → ∃ P D S, b[k]? = some P ∧ c[k]? = some D ∧ d[k]? = some S ∧ xKc (o + k) q P D S = true
  | [], [], [], [], _, _, _, _, h => by simp at h
  | q :: a, P :: b, D :: c, S :: d, o, h, k, q', hk => by
    unfold xKall at h
    simp only [Bool.and_eq_true] at h
    cases k with
    | zero =>
      simp only [List.getElem?_cons_zero, Option.some.injEq] at hk
      subst hk
      exact ⟨P, D, S, rfl, rfl, rfl, h.1⟩
    | succ k =>
      simp only [List.getElem?_cons_succ] at hk
      obtain ⟨P', D', S', h1, h2, h3, h4⟩ := xKall_get h.2 hk
      exact ⟨P', D', S', h1, h2, h3, by rwa [show o + 1 + k = o + (k + 1) by omega] at h4⟩
/-- what is known of an owner of fields -/
theorem xcl_ok {ci : Nat} {C : String} {T : u_T} {N : Nat} (h : vwCl[ci]? = some (C, T, N)) :
    (∀ w ∈ u_ws C T N, w ∈ xB) ∧ (∀ k, k < N → parseFieldDescriptor (T k).2.2.1 = some (xty ci k)) ∧ (∀ a, a < N → ∀ b, b < N → a ≠ b → (T a).2.1 ≠ (T b).2.1) ∧
    Cond.instantiable C N ∈ xB ∧ Cond.initialized C ∈ xB ∧ C = xr ci ∧
    ∃ D S, xD[ci]? = some D ∧ xT[ci]? = some S ∧ D.length = N ∧ S.length = N ∧ (∀ k, k < N → defaultValue (xty ci k) = vp_V D k) ∧ ∀ k c, k < N → S[k]? = some c → xtc c (xty ci k) = true ∧ (T k).2.2.2 = Nat.ble 10 c := by
  obtain ⟨P, D, S, h1, h2, h3, h4⟩ := xKall_get xK_ok h
  rw [Nat.zero_add] at h4
  unfold xKc at h4
  simp only [Bool.and_eq_true, decide_eq_true_eq, List.all_eq_true, List.mem_range] at h4
  obtain ⟨⟨⟨⟨⟨hk, hi⟩, hn⟩, hD⟩, hS⟩, hC⟩ := h4
  refine ⟨?_, fun k q => (hk k q).1.1.1.2, ?_, xw_in hi, xw_in hn, hC, D, S, h2, h3, hD, hS, ?_, ?_⟩
  · intro w hw
    obtain ⟨k, hkr, rfl⟩ := List.mem_map.mp hw
    have := (hk k (List.mem_range.mp hkr)).1.1.1.1
    split at this
    next p hp => exact xw_in this
    next => cases this
  · intro a ha b hb hab
    have := (hk a ha).2 b hb
    simp only [Bool.or_eq_true, decide_eq_true_eq] at this
    rcases this with h | h
    · exact absurd (Nat.eq_of_beq_eq_true h) hab
    · exact h
  · intro k q
    have := (hk k q).1.1.2
    split at this
    next v hv =>
      rw [of_decide_eq_true this]
      simp [vp_V, hv]
    next => cases this
  · intro k c q hc
    have := (hk k q).1.2
    rw [hc] at this
    simpa using this
def xGc (own idx : Nat) (a : Nat × Nat) : Bool := xSt.any fun q => Nat.beq q.2.2.2.1 a.1 && xw a.2 (.fieldLink (xr own) idx q.1 q.2.1 q.2.2.1)
set_option maxRecDepth 100000 in
theorem xG_ok : xall xGc 0 xG = true := by decide +kernel
def xYc (own idx : Nat) (a : Nat) : Bool := xw a (.methodLink (xr own) idx arraycopyName)
set_option maxRecDepth 100000 in
theorem xY_ok : (xall xYc 0 xY && xw xYp.1 (.native arraycopyName) && xw xYp.2.1 (.static arraycopyName) && xw xYp.2.2 (.initialized "java/lang/System")) = true := by decide +kernel
def xNc (own idx : Nat) (a : Nat × Nat) : Bool := match vwCl[a.1]? with
  | some q => xw a.2 (.classLink (xr own) idx q.1)
  | none => false
set_option maxRecDepth 100000 in
theorem xW_ok : xall xNc 0 xW = true := by decide +kernel
set_option maxRecDepth 100000 in
theorem xMm_ok : (match xN[xMx]?, xN[xMn]? with
  | some a, some b => decide (a.1 = Lib.Math.max.name) && decide (b.1 = Lib.Math.min.name) && decide (a.2.1 = Lib.Math.max.code) && decide (b.2.1 = Lib.Math.min.code) && xw a.2.2.2.2.1 (.initialized "java/lang/Math") && xw a.2.2.2.2.2.1 (.static Lib.Math.max.name) && xw b.2.2.2.2.2.1 (.static Lib.Math.min.name)
  | _, _ => false) = true := by decide +kernel
set_option maxRecDepth 100000 in
theorem xA_ok : (xw xAp.1 (.arrayClass .int) && xw xAp.2.1 (.arrayClass .boolean) && xw xAp.2.2 (.arrayClass .long) && xw xOp.1 (.instanceMethod objectInit) && xw xOp.2 (.code objectInit ⟨#[0xb1]⟩ 1 none)) = true := by decide +kernel
/-- a method's row: its code as bytes, its words -/
def xrc (r : Nat) : Option FieldType := match r with
  | 1 => some .int
  | 2 => some .boolean
  | 3 => some .long
  | _ => none
def xMc (q : xQ) (y : xNt) : Bool :=
  decide (y.1.cls = xr q.1) && decide (y.2.2.1 = xrc q.2.2.2.1) && xw y.2.2.2.2.1 (.initialized y.1.cls) && Nat.ble q.2.1 60 && plainName y.1.cls &&
  decide (y.1.cls ≠ "java/lang/invoke/MethodHandle") && decide (y.1.cls ≠ "java/lang/invoke/VarHandle") &&
  (match q.2.2.1 with
    | 0 => xw y.2.2.2.2.2.1 (.static y.1)
    | 1 => xw y.2.2.2.2.2.1 (.instanceMethod y.1) && xw y.2.2.2.2.2.2 (.selects y.1.cls y.1 y.1)
    | _ => xw y.2.2.2.2.2.1 (.instanceMethod y.1) && decide (y.1.name = "<init>") && Nat.beq q.2.2.2.1 0)
/-- a call's row -/
def xCc (own idx : Nat) (a : Nat × Nat × Nat × Nat) : Bool :=
  bif Nat.beq a.1 9999 then xw a.2.2.1 (.methodLink (xr own) idx objectInit) else
  match xN[a.1]? with
  | some y => decide ((parseMethodDescriptor y.1.desc).map (fun d => d.parameters.length) = some a.2.1) &&
    (match a.2.2.2 with
      | 0 => xw a.2.2.1 (.methodLink (xr own) idx y.1)
      | _ => match xgt a.2.2.1 with
        | some (.methodLinkNest o i z _) => decide (o = xr own) && decide (i = idx) && decide (z = y.1)
        | _ => false)
  | none => false
set_option maxRecDepth 100000 in
theorem xC_ok : xall xCc 0 xC = true := by decide +kernel
set_option maxRecDepth 100000 in
theorem xM_ok : ((xM.zip xN).take xOw).all (fun a => xMc a.1 a.2) = true := by decide +kernel
end
section
/-! the machine follows the pure one: steps that touch locals and stack alone, and jumps -/
/-- a pure value on the heap: cells come one behind another from B on -/
def xv (B : Nat) (aR : Nat → Nat) : Value → Value
  | .ref r => .ref (B + r)
  | .retAddr k => .ref (aR k)
  | v => v
theorem xv_cat (B : Nat) (aR : Nat → Nat) (v : Value) : (xv B aR v).category = v.category := by cases v <;> rfl
def xvl (B : Nat) (aR : Nat → Nat) (ls : xL) : List (Nat × Value) := ls.map (fun q => (q.1, xv B aR q.2))
theorem xvl_1 (B : Nat) (aR : Nat → Nat) (ls : xL) (i : Nat) (v : Value) : (i, xv B aR v) :: (xvl B aR ls).filter (fun q => !(q.1 == i) && !(q.1 + 1 == i && q.2.category == 2)) = xvl B aR (xs_1 ls i v) := by
  unfold xvl xs_1
  rw [List.map_cons, List.filter_map]
  congr 2
  apply List.filter_congr
  intro q _
  simp [xv_cat]
theorem xvl_2 (B : Nat) (aR : Nat → Nat) (ls : xL) (i : Nat) (v : Value) : (i, xv B aR v) :: (xvl B aR ls).filter (fun q => !(q.1 == i) && (!(q.1 == i + 1) && !(q.1 + 1 == i && q.2.category == 2))) = xvl B aR (xs_2 ls i v) := by
  unfold xvl xs_2
  rw [List.map_cons, List.filter_map]
  congr 2
  apply List.filter_congr
  intro q _
  simp [xv_cat]
theorem xbif {α : Type} {b : Bool} {x : Option α} {r : α} (h : (bif b then x else none) = some r) : b = true ∧ x = some r := by
  cases b with
  | true => exact ⟨rfl, h⟩
  | false => cases h
theorem xmap {α β : Type} {o : Option α} {f : α → β} {r : β} (h : o.map f = some r) : ∃ v, o = some v ∧ f v = r := by
  cases o with
  | none => cases h
  | some v => exact ⟨v, rfl, Option.some.inj h⟩
theorem xldi_e {ls : xL} {k : Nat} {x : Int32} (h : xldi ls k = some x) : xfd ls k = some (.int x) := by
  unfold xldi at h
  split at h
  next y e => cases h; exact e
  next => cases h
theorem xldl_e {ls : xL} {k : Nat} {x : Int64} (h : xldl ls k = some x) : xfd ls k = some (.long x) := by
  unfold xldl at h
  split at h
  next y e => cases h; exact e
  next => cases h
theorem xlda_e {ls : xL} {k : Nat} {v : Value} (h : xlda ls k = some v) : xfd ls k = some v ∧ ((∃ x, v = .ref x) ∨ ∃ x, v = .retAddr x) := by
  unfold xlda at h
  split at h
  next y e => cases h; exact ⟨e, Or.inl ⟨_, rfl⟩⟩
  next y e => cases h; exact ⟨e, Or.inr ⟨_, rfl⟩⟩
  next => cases h
theorem xvl_at {B : Nat} {aR : Nat → Nat} {ls : xL} {lsA : Array Slot} {nL k : Nat} {v : Value} (h : lv_has lsA nL (xvl B aR ls)) (e : xfd ls k = some v) : lsA[k]? = some (.val (xv B aR v)) :=
  h.2.2 (k, xv B aR v) (List.mem_map.mpr ⟨(k, v), xfd_mem e, rfl⟩)
theorem xvl_k {B : Nat} {aR : Nat → Nat} {ls : xL} {k : Nat} {v : Value} (e : xfd ls k = some v) : ∃ j : Nat, (xvl B aR ls)[j]? = some (k, xv B aR v) :=
  List.getElem?_of_mem (List.mem_map.mpr ⟨(k, v), xfd_mem e, rfl⟩)
theorem xI_in {own k : Nat} {v : Int32 × Nat} (h : xtb xI own k = some v) : Cond.constant (xr own) k v.1 ∈ xB := xw_in (xtb_ok xI_ok h)
theorem xJ_in {own k : Nat} {v : Int64 × Nat} (h : xtb xJ own k = some v) : Cond.constantLong (xr own) k v.1 ∈ xB := xw_in (xtb_ok xJ_ok h)
section XS
variable {p : Program} {l : Launch} {e : Env} {R : Room} {s : State} {m : MethodId} {args : Array Value} {below : List Frame} {meth : Method} {c : Code} {H : Heap} {locs : List Loc} {cells slots : Nat} {Q : State → Prop}
variable {cc : ByteArray} {pc : Nat} {lsA : Array Slot} {B : Nat} {aR : Nat → Nat}
set_option maxHeartbeats 4000000 in
set_option maxRecDepth 100000 in
theorem xs1_W {own nL : Nat} {i : Instr} {ls ls' : xL} {st st' : List Value} (hx : p.tables.exec = Jvm.exec) (hb : c.code = cc) (hown : s.vm.findClass (xr own) = some m.cls) (hts : ∀ w ∈ xB, w.before args s = true)
    (hd : decode cc pc = .ok (i, xil i)) (h : xs1 own nL i ls st = some (ls', st')) (hl : lv_has lsA nL (xvl B aR ls))
    (k : ∀ lsB, lv_has lsB nL (xvl B aR ls') → W p l e R s m args below meth c H locs cells slots Q (F0 m (pc + xil i) lsB (st'.map (xv B aR)))) : W p l e R s m args below meth c H locs cells slots Q (F0 m pc lsA (st.map (xv B aR))) := by
  unfold xs1 at h
  split at h
  next => cases h; exact lv_iconst hx hb hd rfl (k _ hl)
  next => cases h; exact lv_bipush hx hb hd rfl (k _ hl)
  next => cases h; exact lv_sipush hx hb hd rfl (k _ hl)
  next => cases h; exact lv_lconst hx hb hd rfl (k _ hl)
  next => obtain ⟨v, hv, hh⟩ := xmap h; cases hh; exact lv_ldc hx hb hown (hts _ (xI_in hv)) hd (k _ hl)
  next => obtain ⟨v, hv, hh⟩ := xmap h; cases hh; exact lv_ldcw hx hb hown (hts _ (xI_in hv)) hd (k _ hl)
  next => obtain ⟨v, hv, hh⟩ := xmap h; cases hh; exact lv_ldc2 hx hb hown (hts _ (xJ_in hv)) hd (k _ hl)
  next => obtain ⟨v, hv, hh⟩ := xmap h; cases hh; exact lv_iload_n hx hb hd rfl (xvl_at hl (xldi_e hv)) (k _ hl)
  next => obtain ⟨v, hv, hh⟩ := xmap h; cases hh; exact lv_iload hx hb hd (xvl_at hl (xldi_e hv)) (k _ hl)
  next => obtain ⟨v, hv, hh⟩ := xmap h; cases hh; exact lv_lload_n hx hb hd rfl (xvl_at hl (xldl_e hv)) (k _ hl)
  next => obtain ⟨v, hv, hh⟩ := xmap h; cases hh; exact lv_lload hx hb hd (xvl_at hl (xldl_e hv)) (k _ hl)
  next =>
    obtain ⟨v, hv, hh⟩ := xmap h; cases hh
    obtain ⟨hv, ⟨x, rfl⟩ | ⟨x, rfl⟩⟩ := xlda_e hv
    · exact lv_aload_n hx hb hd rfl (xvl_at hl hv) (k _ hl)
    · exact lv_aload_n hx hb hd rfl (xvl_at hl hv) (k _ hl)
  next =>
    obtain ⟨v, hv, hh⟩ := xmap h; cases hh
    obtain ⟨hv, ⟨x, rfl⟩ | ⟨x, rfl⟩⟩ := xlda_e hv
    · exact lv_aload hx hb hd (xvl_at hl hv) (k _ hl)
    · exact lv_aload hx hb hd (xvl_at hl hv) (k _ hl)
  next => obtain ⟨hk, hh⟩ := xbif h; cases hh; exact lv_istore_n hx hb hd rfl hl (Nat.blt_eq.mp hk) (xvl_1 B aR _ _ (.int _)) k
  next => obtain ⟨hk, hh⟩ := xbif h; cases hh; exact lv_istore hx hb hd hl (Nat.blt_eq.mp hk) (xvl_1 B aR _ _ (.int _)) k
  next => obtain ⟨hk, hh⟩ := xbif h; cases hh; exact lv_astore_n hx hb hd rfl hl (Nat.blt_eq.mp hk) (xvl_1 B aR _ _ (.ref _)) k
  next => obtain ⟨hk, hh⟩ := xbif h; cases hh; exact lv_lstore_n hx hb hd rfl hl (Nat.blt_eq.mp hk) (xvl_2 B aR _ _ (.long _)) k
  next => obtain ⟨hk, hh⟩ := xbif h; cases hh; exact lv_lstore hx hb hd hl (Nat.blt_eq.mp hk) (xvl_2 B aR _ _ (.long _)) k
  next =>
    split at h
    next x hv =>
      obtain ⟨hk, hh⟩ := xbif h; cases hh
      obtain ⟨j, hj⟩ := xvl_k (B := B) (aR := aR) (xldi_e hv)
      exact lv_iinc hx hb hd hl hj rfl (Nat.blt_eq.mp hk) (xvl_1 B aR _ _ (.int _)) k
    next => cases h
  next => cases h; exact lv_iadd hx hb hd (k _ hl)
  next => cases h; exact lv_isub hx hb hd (k _ hl)
  next => cases h; exact lv_imul hx hb hd (k _ hl)
  next =>
    split at h
    next => cases h
    next hne => cases h; exact lv_idiv hx hb hd hne (k _ hl)
  next =>
    split at h
    next => cases h
    next hne => cases h; exact lv_irem hx hb hd hne (k _ hl)
  next => cases h; exact lv_ineg hx hb hd (k _ hl)
  next => cases h; exact lv_iand hx hb hd (k _ hl)
  next => cases h; exact lv_ior hx hb hd (k _ hl)
  next => cases h; exact lv_ixor hx hb hd (k _ hl)
  next => cases h; exact lv_ishl hx hb hd (k _ hl)
  next => cases h; exact lv_ishr hx hb hd (k _ hl)
  next => cases h; exact lv_iushr hx hb hd rfl (k _ hl)
  next => cases h; exact lv_i2l hx hb hd rfl (k _ hl)
  next => cases h; exact lv_l2i hx hb hd rfl (k _ hl)
  next => cases h; exact lv_i2b hx hb hd rfl (k _ hl)
  next => cases h; exact lv_i2s hx hb hd rfl (k _ hl)
  next => cases h; exact lv_lshl hx hb hd rfl (k _ hl)
  next => cases h; exact lv_lor hx hb hd (k _ hl)
  next => cases h; exact lv_land hx hb hd (k _ hl)
  next => cases h; exact W.lcmp hx hb hd (k _ hl)
  next =>
    split at h
    next hv => cases h; exact lv_dup hx hb hd (by rw [xv_cat]; exact hv) (k _ hl)
    next => cases h
  next =>
    split at h
    next hv => cases h; exact lv_pop hx hb hd (by rw [xv_cat]; exact hv) (k _ hl)
    next => cases h
  next =>
    split at h
    next hv => cases h; exact lv_dup2_11 hx hb hd (by rw [xv_cat]; exact hv.1) (by rw [xv_cat]; exact hv.2) (k _ hl)
    next => cases h
  next =>
    split at h
    next hv => cases h; exact lv_pop2_2 hx hb hd (by rw [xv_cat]; exact hv) (k _ hl)
    next => cases h
  next => cases h
theorem xtg_e {pc : Nat} {o : Int} {t : Nat} (h : xtg pc o = some t) : (pc : Int) + o = (t : Int) := by
  unfold xtg at h
  split at h
  next u e => cases h; exact e
  next => cases h
set_option maxHeartbeats 4000000 in
set_option maxRecDepth 100000 in
theorem xbr_W {i : Instr} {pc' n : Nat} {st st' : List Value} (hx : p.tables.exec = Jvm.exec) (hb : c.code = cc)
    (hd : decode cc pc = .ok (i, n)) (hn : n = xil i ∨ (∃ a b d o, i = .tableswitch a b d o) ∨ ∃ a b, i = .lookupswitch a b) (h : xbr i pc st = some (pc', st'))
    (k : W p l e R s m args below meth c H locs cells slots Q (F0 m pc' lsA (st'.map (xv B aR)))) : W p l e R s m args below meth c H locs cells slots Q (F0 m pc lsA (st.map (xv B aR))) := by
  unfold xbr at h
  split at h
  next =>
    have hn : n = 3 := by rcases hn with h | ⟨_, _, _, _, h⟩ | ⟨_, _, h⟩ <;> first | exact h | cases h
    subst hn
    obtain ⟨t, ht, hh⟩ := xmap h; cases hh
    exact lv_goto hx hb hd (xtg_e ht) k
  next c0 o x st0 =>
    have hn : n = 3 := by rcases hn with h | ⟨_, _, _, _, h⟩ | ⟨_, _, h⟩ <;> first | exact h | cases h
    subst hn
    obtain ⟨t, ht, hh⟩ := xmap h; cases hh
    have ht := xtg_e ht
    have kt : xcmp c0 x 0 = true → W p l e R s m args below meth c H locs cells slots Q (F0 m t lsA (st'.map (xv B aR))) := fun z => by rw [z] at k; exact k
    have kf : xcmp c0 x 0 = false → W p l e R s m args below meth c H locs cells slots Q (F0 m (pc + 3) lsA (st'.map (xv B aR))) := fun z => by rw [z] at k; exact k
    cases c0 with
    | eq => exact lv_if_eq hx hb hd ht (fun z => kt (decide_eq_true z)) (fun z => kf (decide_eq_false z))
    | ne => exact lv_if_ne hx hb hd ht (fun z => kt (decide_eq_true z)) (fun z => kf (decide_eq_false (fun q => q z)))
    | lt => exact lv_if_lt hx hb hd ht (fun z => kt (decide_eq_true z)) (fun z => kf (decide_eq_false z))
    | ge => exact lv_if_ge hx hb hd ht (fun z => kt (decide_eq_true z)) (fun z => kf (decide_eq_false z))
    | gt => exact lv_if_gt hx hb hd ht (fun z => kt (decide_eq_true z)) (fun z => kf (decide_eq_false z))
    | le => exact lv_if_le hx hb hd ht (fun z => kt (decide_eq_true z)) (fun z => kf (decide_eq_false z))
  next c0 o y x st0 =>
    have hn : n = 3 := by rcases hn with h | ⟨_, _, _, _, h⟩ | ⟨_, _, h⟩ <;> first | exact h | cases h
    subst hn
    obtain ⟨t, ht, hh⟩ := xmap h; cases hh
    have ht := xtg_e ht
    have kt : xcmp c0 x y = true → W p l e R s m args below meth c H locs cells slots Q (F0 m t lsA (st'.map (xv B aR))) := fun z => by rw [z] at k; exact k
    have kf : xcmp c0 x y = false → W p l e R s m args below meth c H locs cells slots Q (F0 m (pc + 3) lsA (st'.map (xv B aR))) := fun z => by rw [z] at k; exact k
    cases c0 with
    | eq => exact lv_icmp_eq hx hb hd ht (fun z => kt (decide_eq_true z)) (fun z => kf (decide_eq_false z))
    | ne => exact lv_icmp_ne hx hb hd ht (fun z => kt (decide_eq_true z)) (fun z => kf (decide_eq_false (fun q => q z)))
    | lt => exact lv_icmp_lt hx hb hd ht (fun z => kt (decide_eq_true z)) (fun z => kf (decide_eq_false z))
    | ge => exact lv_icmp_ge hx hb hd ht (fun z => kt (decide_eq_true z)) (fun z => kf (decide_eq_false z))
    | gt => exact lv_icmp_gt hx hb hd ht (fun z => kt (decide_eq_true z)) (fun z => kf (decide_eq_false z))
    | le => exact lv_icmp_le hx hb hd ht (fun z => kt (decide_eq_true z)) (fun z => kf (decide_eq_false z))
  next d lo hi offs x st0 =>
    split at h
    next hz => obtain ⟨t, ht, hh⟩ := xmap h; cases hh; exact lv_tableOut hx hb hd hz (xtg_e ht) k
    next hz =>
      split at h
      next o ho =>
        obtain ⟨t, ht, hh⟩ := xmap h; cases hh
        exact lv_tableIn hx hb hd (fun q => hz (Or.inl q)) (fun q => hz (Or.inr q)) ho (xtg_e ht) k
      next => cases h
  next d ps x st0 =>
    obtain ⟨hp, h⟩ := xbif h
    obtain ⟨t, ht, hh⟩ := xmap h; cases hh
    exact lv_lookup hx hb hd hp rfl (xtg_e ht) k
  next => cases h
end XS
end
section
/-! the cells of the pure machine on the heap; the steps that touch them -/
def xai (v : Value) : Int32 := match v with
  | .int x => x
  | _ => 0
def xal (v : Value) : Int64 := match v with
  | .long x => x
  | _ => 0
def xe (B : Nat) (aR : Nat → Nat) (cI cZ cJ : ClassId) (c : xE) : va_E :=
  if c.1 = 100 then .inl (cI, c.2.length, .inl (fun j => xai (c.2.getD j .null)))
  else if c.1 = 101 then .inl (cZ, c.2.length, .inl (fun j => xai (c.2.getD j .null)))
  else if c.1 = 102 then .inl (cJ, c.2.length, .inr (.inl (fun j => xal (c.2.getD j .null))))
  else .inr (c.1, c.2.map (xv B aR))
theorem xe_i (B : Nat) (aR : Nat → Nat) (cI cZ cJ : ClassId) (vs : List Value) : xe B aR cI cZ cJ (100, vs) = .inl (cI, vs.length, .inl (fun j => xai (vs.getD j .null))) := rfl
theorem xe_z (B : Nat) (aR : Nat → Nat) (cI cZ cJ : ClassId) (vs : List Value) : xe B aR cI cZ cJ (101, vs) = .inl (cZ, vs.length, .inl (fun j => xai (vs.getD j .null))) := rfl
theorem xe_l (B : Nat) (aR : Nat → Nat) (cI cZ cJ : ClassId) (vs : List Value) : xe B aR cI cZ cJ (102, vs) = .inl (cJ, vs.length, .inr (.inl (fun j => xal (vs.getD j .null)))) := rfl
theorem xe_o (B : Nat) (aR : Nat → Nat) (cI cZ cJ : ClassId) {t : Nat} (ht : t < 100) (vs : List Value) : xe B aR cI cZ cJ (t, vs) = .inr (t, vs.map (xv B aR)) := by
  unfold xe
  rw [if_neg (by dsimp only; omega), if_neg (by dsimp only; omega), if_neg (by dsimp only; omega)]
def xwd (g : xE → va_E) : Nat → xH → va_W
  | _, [] => []
  | o, c :: h => (o, g c) :: xwd g (o + 1) h
theorem xwd_get (g : xE → va_E) : ∀ (h : xH) (o k : Nat), (xwd g o h)[k]? = (h[k]?).map (fun c => (o + k, g c))
  | [], o, k => by simp [xwd]
  | c :: h, o, 0 => by simp [xwd]
  | c :: h, o, k + 1 => by
    simp only [xwd, List.getElem?_cons_succ]
    rw [xwd_get g h (o + 1) k]
    congr 1
    funext c
    rw [show o + 1 + k = o + (k + 1) by omega]
theorem xwd_set (g : xE → va_E) : ∀ (h : xH) (o k : Nat) (c : xE), (xwd g o h).set k (o + k, g c) = xwd g o (h.set k c)
  | [], o, k, c => by simp [xwd]
  | c0 :: h, o, 0, c => by simp [xwd]
  | c0 :: h, o, k + 1, c => by
    simp only [xwd, List.set_cons_succ]
    rw [← xwd_set g h (o + 1) k c, show o + 1 + k = o + (k + 1) by omega]
theorem xwd_app (g : xE → va_E) : ∀ (h : xH) (o : Nat) (c : xE), xwd g o (h ++ [c]) = xwd g o h ++ [(o + h.length, g c)]
  | [], o, c => by simp [xwd]
  | c0 :: h, o, c => by
    simp only [xwd, List.cons_append, List.length_cons]
    rw [xwd_app g h (o + 1) c, show o + 1 + h.length = o + (h.length + 1) by omega]
theorem xwd_D (g : xE → va_E) (h : xH) (B : Nat) : va_D (fun q : Nat => B ≤ q) (xwd g B h) := by
  refine ⟨fun i j p q hi hj e => ?_, fun k q hk => ?_⟩
  · rw [xwd_get] at hi hj
    obtain ⟨c1, -, rfl⟩ := Option.map_eq_some_iff.mp hi
    obtain ⟨c2, -, rfl⟩ := Option.map_eq_some_iff.mp hj
    have e : B + i = B + j := e
    omega
  · rw [xwd_get] at hk
    obtain ⟨c1, -, rfl⟩ := Option.map_eq_some_iff.mp hk
    exact Nat.le_add_right B k
/-- the pure cells stand on the heap, from B to its end -/
def xRl (B : Nat) (aR : Nat → Nat) (cI cZ cJ : ClassId) (D : va_G) (h : xH) (H : Heap) : Prop := H.size = B + h.length ∧ va_P D vwCl (xwd (xe B aR cI cZ cJ) B h) H
/-- the slots that the cells take -/
def xsl (h : xH) : Nat := (h.map fun c => c.2.length).sum
theorem xsl_set : ∀ (h : xH) (k : Nat) (c c' : xE), h[k]? = some c → c'.2.length = c.2.length → xsl (h.set k c') = xsl h
  | [], k, c, c', hk, _ => by simp at hk
  | c0 :: h, 0, c, c', hk, hl => by
    simp only [List.getElem?_cons_zero, Option.some.injEq] at hk
    subst hk
    simp [xsl, hl]
  | c0 :: h, k + 1, c, c', hk, hl => by
    simp only [List.getElem?_cons_succ] at hk
    have := xsl_set h k c c' hk hl
    simp only [xsl, List.set_cons_succ, List.map_cons, List.sum_cons] at this ⊢
    omega
theorem xsl_app (h : xH) (c : xE) : xsl (h ++ [c]) = xsl h + c.2.length := by simp [xsl]
section XS
variable {p : Program} {l : Launch} {e : Env} {R : Room} {s : State} {m : MethodId} {args : Array Value} {below : List Frame} {meth : Method} {c : Code} {H : Heap} {locs : List Loc} {cells slots : Nat} {Q : State → Prop}
variable {cc : ByteArray} {pc : Nat} {ls : Array Slot} {rest : List Value} {D : va_G} {cl : List vw_C} {A : Nat → Prop} {a : Nat} {tys : List (ClassId × FieldType)} {ws : va_W} {H0 : Heap}
/-! writes, with the heap's size beside -/
theorem xw_put (hexec : p.tables.exec = Jvm.exec) (hb : c.code = cc) {own ref C : String} {T : u_T} {N ci index : Nat} {Ts : List Cond} (hts : ∀ w ∈ Ts, w.before args s = true) (hin : ∀ w ∈ u_ws C T N, w ∈ Ts) (ty0 : Nat → FieldType) (hty : ∀ k, k < N → parseFieldDescriptor (T k).2.2.1 = some (ty0 k)) (hnm : ∀ a, a < N → ∀ b, b < N → a ≠ b → (T a).2.1 ≠ (T b).2.1) (hown : s.vm.findClass own = some m.cls) (hK : va_K D cl tys s) (hP : va_P D cl ws H) (hD : va_D A ws) (hS0 : va_S A H0 H locs) (q0 : Nat) {fs : List Value} (he : ws[q0]? = some (a, .inr (ci, fs))) (hc : cl[ci]? = some (C, T, N)) (k : Nat) (hk : k < N) (hlink : (Cond.fieldLink own index ref (T k).2.1 (T k).2.2.1).before args s = true) (hsame : ∀ x, s.fieldFound? (T k).1 (T k).2.1 (T k).2.2.1 = some x → s.fieldFound? ref (T k).2.1 (T k).2.2.1 = some x)
    (hfin : (T k).2.2.2 = false ∨ (meth.name = "<init>" ∧ (T k).1 = own)) {v : Value} (hn : narrow (ty0 k) v = v) (hfit : fits (ty0 k) v = true) (hl : k < fs.length)
    (hdg : decode cc pc = .ok (.putfield index, 3)) (kk : ∀ (H1 : Heap) (locs1 : List Loc), H1.size = H.size → va_P D cl (ws.set q0 (a, .inr (ci, fs.set k v))) H1 → va_S A H0 H1 locs1 → W p l e R s m args below meth c H1 locs1 cells slots Q (F0 m (pc + 3) ls rest)) : W p l e R s m args below meth c H locs cells slots Q (F0 m pc ls (v :: .ref a :: rest)) := by
  have hap := va_apart (own := own) hts hin ty0 hty hnm hK hc
  obtain ⟨r, h1, cell, q1, q2, q3, q4⟩ := hP q0 _ he
  obtain rfl : r = (C, T, N) := Option.some.inj (h1.symm.trans hc)
  obtain ⟨hS, hfc, kC, hkC, hkind⟩ := hK.1 ci _ hc
  obtain ⟨cf, kf, fi, f, hi, hsl⟩ := hS k hk
  have hlay := u_lays hts hin hk
  have hst := (u_facts hfc hkC hlay hi).1
  have go : ∀ H' : Heap, H'[a]? = some (cell.setSlot f.slot v) → H'.size = H.size → (∀ q, q ≠ a → H'[q]? = H[q]?) → W p l e R s m args below meth c H' (locs ++ [⟨a, f.slot⟩]) cells slots Q (F0 m (pc + 3) ls rest) := by
    intro H' e1 e2 e3
    rw [hsl] at e1 ⊢
    exact kk H' _ e2 (hP.set hD he ⟨_, hc, t_OB.to (V := updV (vp_V fs) k v) ⟨_, e1, q2, q3, t_set q4 hap hk v⟩ (fun j _ => vp_updV_set hl v j)⟩ e3) (hS0.put e2 e3 (hD.2 q0 _ he))
  cases hf : (T k).2.2.2 with
  | false =>
    have h0 := hts _ (hin _ (u_in_lay hk))
    unfold u_lay at h0
    rw [if_neg (by rw [hf]; decide)] at h0
    exact W.putK hexec hb (f := f) ⟨hown, hlink, ⟨_, _, _, hsame _ hi⟩, hst⟩ (by rw [q2]; exact u_store hfc hkC hkind h0 hi (hty k hk) hn hfit) q1 q3 (by rw [hsl]; exact k2_hasslot (q4 k hk)) rfl rfl hdg go
  | true =>
    obtain ⟨hin2, hdecl⟩ : meth.name = "<init>" ∧ (T k).1 = own := hfin.resolve_left (by rw [hf]; decide)
    have h0 := hts _ (hin _ (u_in_lay hk))
    unfold u_lay at h0
    rw [if_pos hf] at h0
    have hcf : m.cls = cf := by
      obtain ⟨_, _, c', _, _, _, -, -, hf', -, -, -, hown2, -⟩ := Cond.laysFinal_spec h0
      have e1 : c' = cf := by have := hi.symm.trans hf'; simp at this; exact this.1.symm
      rw [hdecl] at hown2
      rw [← e1]; exact Option.some.inj (hown.symm.trans hown2)
    exact W.putFinK hexec hb hown hlink (hsame _ hi) hst hcf hin2 (by rw [q2]; exact u_fits hfc hkC hkind hlay hi (hty k hk) hn hfit) q1 q3 (by rw [hsl]; exact k2_hasslot (q4 k hk)) rfl rfl hdg go
theorem xw_iast (hexec : p.tables.exec = Jvm.exec) (hb : c.code = cc) (hK : va_K D cl tys s) (hP : va_P D cl ws H) (hD : va_D A ws) (hS : va_S A H0 H locs) (q0 t0 : Nat) {cA : ClassId} {n : Nat} {f : Nat → Int32} (ha : ws[q0]? = some (a, .inl (cA, n, .inl f))) (ht : tys[t0]? = some (cA, .int)) {i : Int32} {x : Int32} (hin : vp_in i n) (hdg : decode cc pc = .ok (.iastore, 1))
    (kk : ∀ (H1 : Heap) (locs1 : List Loc), H1.size = H.size → va_P D cl (ws.set q0 (a, .inl (cA, n, .inl (upd f i.toNatClampNeg x)))) H1 → va_S A H0 H1 locs1 → W p l e R s m args below meth c H1 locs1 cells slots Q (F0 m (pc + 1) ls rest)) : W p l e R s m args below meth c H locs cells slots Q (F0 m pc ls (.int x :: .int i :: .ref a :: rest)) := by
  refine W.iast hexec hb (hP q0 _ ha) ((hK.2 t0 _ ht).1 n (fun j => .int (f j))) (fun q => by cases q) (by show ¬ (i < 0 ∨ (arrV _ _ _).slots.size ≤ _); rw [arrV_size]; exact hin) rfl rfl hdg fun H1 e z oq => ?_
  refine kk H1 _ z (hP.set hD ha ?_ oq) (hS.put z oq (hD.2 q0 _ ha))
  show H1[a]? = some (vp_cell _ _)
  rw [e, vp_cell_i, vp_cell_i, arrV_store]
  congr 2
  funext q
  by_cases hq : q = i.toNatClampNeg
  · subst hq; simp [updV, upd]
  · simp [updV, upd, hq]
theorem xw_zast (hexec : p.tables.exec = Jvm.exec) (hb : c.code = cc) (hK : va_K D cl tys s) (hP : va_P D cl ws H) (hD : va_D A ws) (hS : va_S A H0 H locs) (q0 t0 : Nat) {cA : ClassId} {n : Nat} {f : Nat → Int32} (ha : ws[q0]? = some (a, .inl (cA, n, .inl f))) (ht : tys[t0]? = some (cA, .boolean)) {i : Int32} {x : Int32} (hin : vp_in i n) (hnx : vp_nar .boolean x = x) (hdg : decode cc pc = .ok (.bastore, 1))
    (kk : ∀ (H1 : Heap) (locs1 : List Loc), H1.size = H.size → va_P D cl (ws.set q0 (a, .inl (cA, n, .inl (upd f i.toNatClampNeg x)))) H1 → va_S A H0 H1 locs1 → W p l e R s m args below meth c H1 locs1 cells slots Q (F0 m (pc + 1) ls rest)) : W p l e R s m args below meth c H locs cells slots Q (F0 m pc ls (.int x :: .int i :: .ref a :: rest)) := by
  refine W.zast hexec hb (hP q0 _ ha) ((hK.2 t0 _ ht).1 n (fun j => .int (f j))) (fun q => by cases q) (by show ¬ (i < 0 ∨ (arrV _ _ _).slots.size ≤ _); rw [arrV_size]; exact hin) rfl rfl hdg fun H1 e z oq => ?_
  refine kk H1 _ z (hP.set hD ha ?_ oq) (hS.put z oq (hD.2 q0 _ ha))
  show H1[a]? = some (vp_cell _ _)
  have hx2 : narrow .boolean (.int x) = .int x := by
    have h0 : vp_nar .boolean x = x := hnx
    unfold vp_nar at h0
    revert h0
    cases hq : narrow .boolean (.int x) with
    | int y => intro h0; rw [show y = x from h0]
    | _ => simp [narrow] at hq
  rw [hx2] at e
  rw [e, vp_cell_i, vp_cell_i, arrV_store]
  congr 2
  funext q
  by_cases hq : q = i.toNatClampNeg
  · subst hq; simp [updV, upd]
  · simp [updV, upd, hq]
theorem xw_last (hexec : p.tables.exec = Jvm.exec) (hb : c.code = cc) (hK : va_K D cl tys s) (hP : va_P D cl ws H) (hD : va_D A ws) (hS : va_S A H0 H locs) (q0 t0 : Nat) {cA : ClassId} {n : Nat} {f : Nat → Int64} (ha : ws[q0]? = some (a, .inl (cA, n, .inr (.inl f)))) (ht : tys[t0]? = some (cA, .long)) {i : Int32} {x : Int64} (hin : vp_in i n) (hdg : decode cc pc = .ok (.lastore, 1))
    (kk : ∀ (H1 : Heap) (locs1 : List Loc), H1.size = H.size → va_P D cl (ws.set q0 (a, .inl (cA, n, .inr (.inl (vp_updL f i.toNatClampNeg x))))) H1 → va_S A H0 H1 locs1 → W p l e R s m args below meth c H1 locs1 cells slots Q (F0 m (pc + 1) ls rest)) : W p l e R s m args below meth c H locs cells slots Q (F0 m pc ls (.long x :: .int i :: .ref a :: rest)) := by
  refine W.last hexec hb (hP q0 _ ha) ((hK.2 t0 _ ht).1 n (fun j => .long (f j))) (fun q => by cases q) (by show ¬ (i < 0 ∨ (arrV _ _ _).slots.size ≤ _); rw [arrV_size]; exact hin) rfl rfl hdg fun H1 e z oq => ?_
  refine kk H1 _ z (hP.set hD ha ?_ oq) (hS.put z oq (hD.2 q0 _ ha))
  show H1[a]? = some (vp_cell _ _)
  rw [e, vp_cell_l, vp_cell_l, arrV_store]
  congr 2
  funext q
  by_cases hq : q = i.toNatClampNeg
  · subst hq; simp [updV, vp_updL]
  · simp [updV, vp_updL, hq]
theorem xw_copyl (hexec : p.tables.exec = Jvm.exec) (hb : c.code = cc) (hml : c.maxLocals = ls.size) {own : String} {index : Nat} (hown : s.vm.findClass own = some m.cls) (hlink : (Cond.methodLink own index arraycopyName).before args s = true) (hnat : (Cond.native arraycopyName).before args s = true) (hstat : (Cond.static arraycopyName).before args s = true) (hini : (Cond.initialized "java/lang/System").before args s = true)
    (hK : va_K D cl tys s) (hP : va_P D cl ws H) (hD : va_D A ws) (hS : va_S A H0 H locs) (q0 q1 t0 : Nat) {a0 : Nat} {c0 : ClassId} {n0 n1 : Nat} {f g : Nat → Int64} (ha0 : ws[q0]? = some (a0, .inl (c0, n0, .inr (.inl f)))) (ha1 : ws[q1]? = some (a, .inl (c0, n1, .inr (.inl g)))) (ht0 : tys[t0]? = some (c0, .long))
    {sp dp n : Int32} (h1 : ¬ sp < 0) (h2 : ¬ dp < 0) (h3 : ¬ n < 0) (h4 : sp.toNatClampNeg + n.toNatClampNeg ≤ n0) (h5 : dp.toNatClampNeg + n.toNatClampNeg ≤ n1)
    (hframes : 1 ≤ R.frames) (hlocals : (rest.map fun v => v.category).sum + (nativeFrameWords "java/lang/System" "arraycopy" 5 + 11) ≤ R.locals) (hdg : decode cc pc = .ok (.invokestatic index, 3))
    (kk : ∀ (H1 : Heap) (locs1 : List Loc), H1.size = H.size → va_P D cl (ws.set q1 (a, .inl (c0, n1, .inr (.inl (va_cpy f g sp.toNatClampNeg dp.toNatClampNeg n.toNatClampNeg))))) H1 → va_S A H0 H1 locs1 → W p l e R s m args below meth c H1 locs1 cells slots Q (F0 m (pc + 3) ls rest)) : W p l e R s m args below meth c H locs cells slots Q (F0 m pc ls (.int n :: .int dp :: .ref a :: .int sp :: .ref a0 :: rest)) := by
  intro T hT X
  have up : ∀ z : Int32, ¬ z < 0 → z.toInt = (z.toNatClampNeg : Int) := fun z hz => by
    have h0 : (0 : Int) ≤ z.toInt := by simpa using Int32.le_iff_toInt_le.mp (Int32.not_lt.mp hz)
    have h9 : (z.toNatClampNeg : Int) = ((z.toInt.toNat : Nat) : Int) := rfl
    omega
  have src : H[a0]? = some (vp_cell c0 (n0, .inr (.inl f))) := hP q0 _ ha0
  have dst : H[a]? = some (vp_cell c0 (n1, .inr (.inl g))) := hP q1 _ ha1
  obtain ⟨-, kl, hkl, comp, hkind⟩ := (hK.2 t0 _ ht0).1 n0 (fun j => .long (f j))
  have rd : ∀ i, i < n.toNatClampNeg → (vp_cell c0 (n0, .inr (.inl f))).slots.getD (sp.toNatClampNeg + i) .null = .long (f (sp.toNatClampNeg + i)) := fun i hi => by
    show (arrV c0 n0 (fun j => .long (f j))).slots.getD _ _ = _
    rw [Array.getD_eq_getD_getElem?, arrV_read _ _ (by omega)]
    rfl
  obtain ⟨vm', X', step⟩ := X.arraycopy hexec hown hlink hnat hstat hini (src := a0) (dst := a) (cs := vp_cell c0 (n0, .inr (.inl f))) (cd := vp_cell c0 (n1, .inr (.inl g))) (srcPos := sp) (destPos := dp) (n := n) (by rw [hT]; exact src) (by rw [hT]; exact dst)
    (fun _ h => by cases h) (fun _ h => by cases h) (fun h => by cases h) (fun h => by cases h) hkl hkl hkind hkind (by simp [refKind]) h1 h2 h3
    (by rw [up sp h1, up n h3]; show ¬ _ > ((arrV c0 n0 (fun j => .long (f j))).slots.size : Int); rw [arrV_size]; omega)
    (by rw [up dp h2, up n h3]; show ¬ _ > ((arrV c0 n1 (fun j => .long (g j))).slots.size : Int); rw [arrV_size]; omega)
    (fun vm₁ _ i hi => ⟨by rw [rd i hi]; rfl, by rw [rd i hi]; exact trivial⟩)
    (g := F0 m pc ls (.int n :: .int dp :: .ref a :: .int sp :: .ref a0 :: rest)) rfl (by rw [hml]) (rest := rest) rfl (by rw [hb]; exact hdg) hframes (by show 2 * 0 + _ + _ ≤ _; omega)
  have e1 : copied (vp_cell c0 (n0, .inr (.inl f))) (vp_cell c0 (n1, .inr (.inl g))) sp dp n = vp_cell c0 (n1, .inr (.inl (va_cpy f g sp.toNatClampNeg dp.toNatClampNeg n.toNatClampNeg))) := va_copied (fun z => .long z) c0 c0 f g h4
  rw [e1] at X' step
  have ha : a < H.size := (Array.getElem?_eq_some_iff.mp dst).1
  have oq : ∀ (nc : Cell) (q : Nat), q ≠ a → (H.setIfInBounds a nc)[q]? = H[q]? := fun nc q hq => by simp [Array.getElem?_setIfInBounds, Ne.symm hq]
  have at1 : ∀ nc : Cell, (H.setIfInBounds a nc)[a]? = some nc := fun nc => by simp [Array.getElem?_setIfInBounds, ha]
  have hheap : ((T.setVm vm').setCell a (vp_cell c0 (n1, .inr (.inl (va_cpy f g sp.toNatClampNeg dp.toNatClampNeg n.toNatClampNeg))))).heap = H.setIfInBounds a (vp_cell c0 (n1, .inr (.inl (va_cpy f g sp.toNatClampNeg dp.toNatClampNeg n.toNatClampNeg)))) := by rw [← hT]; rfl
  obtain ⟨t, b1, b2⟩ := kk _ _ (by simp) (hP.set hD ha1 (at1 _) (oq _)) ⟨by simp; exact hS.1, fun q g1 g2 => by
      rw [oq _ q (fun e => g2 (by rw [e]; exact hD.2 q1 _ ha1))]
      exact hS.2.1 q g1 g2, fun q hq => by
      rcases List.mem_append.mp hq with h | h
      · exact hS.2.2 q h
      · obtain ⟨z, -, hz⟩ := List.mem_map.mp h
        rw [← hz]
        exact hD.2 q1 _ ha1⟩ _ hheap X'
  exact ⟨t, step t b1, b2⟩
theorem xw_newa (hexec : p.tables.exec = Jvm.exec) (hb : c.code = cc) {atype : ArrayType} {t0 : Nat} {cA : ClassId} {ty : FieldType} (hty : newarray.typeOf atype = ty) (hny : ∀ C, ty ≠ .object C) (harr : (Cond.arrayClass ty).before args s = true) (ht : tys[t0]? = some (cA, ty)) (hK : va_K D cl tys s) (hP : va_P D cl ws H) (hS : va_S A H0 H locs) (hA : ∀ q, H0.size ≤ q → A q)
    {n : Int32} {N' : Nat} {a0 : vp_A} (ha : ∀ cA : ClassId, vp_cell cA a0 = arrV cA N' (fun _ => defaultValue ty)) (hn : ¬ n < 0) (hN : n.toNatClampNeg = N') (hbytes : N' * componentBytes ty ≤ 536870912) (hcells : cells + 1 ≤ R.cells) (hslots : slots + N' ≤ R.slots) (hdg : decode cc pc = .ok (.newarray atype, 2))
    (kk : ∀ (H1 : Heap), H1.size = H.size + 1 → va_P D cl (ws ++ [(H.size, .inl (cA, a0))]) H1 → va_S A H0 H1 locs →
      W p l e R s m args below meth c H1 locs (cells + 1) (slots + N') Q (F0 m (pc + 2) ls (.ref H.size :: rest))) : W p l e R s m args below meth c H locs cells slots Q (F0 m pc ls (.int n :: rest)) := by
  subst hty
  refine va_newaK hexec hb harr rfl hdg rfl hn hN hbytes hcells hslots rfl fun H1 cB e1 z1 o1 hAr hNm => ?_
  obtain rfl : cB = cA := by
    have h2 := (hK.2 t0 _ ht).2
    have h3 : s.vm.findClass ("[" ++ (newarray.typeOf atype).toString) = some cA := by cases atype <;> exact h2
    exact Option.some.inj (hNm.symm.trans h3)
  have hk : ∀ (k : Nat) (x : Nat × va_E), ws[k]? = some x → H1[x.1]? = H[x.1]? := fun k x hx => o1 x.1 ((hP k x hx).lt)
  refine kk H1 z1 ((hP.kept hk).app (fun k x hx => ?_)) ⟨Nat.le_trans hS.1 (by omega), fun x h1 h2 => (o1 x (Nat.lt_of_lt_of_le h1 hS.1)).trans (hS.2.1 x h1 h2), hS.2.2⟩
  have hz : k < 1 := (List.getElem?_eq_some_iff.mp hx).1
  rw [show k = 0 by omega] at hx
  cases hx
  show H1[H.size]? = some (vp_cell _ _)
  rw [ha]
  exact e1
theorem xw_new (hexec : p.tables.exec = Jvm.exec) (hb : c.code = cc) {own C : String} {T : u_T} {N ci index : Nat} {Ts : List Cond} (hts : ∀ w ∈ Ts, w.before args s = true) (hin : ∀ w ∈ u_ws C T N, w ∈ Ts) (ty : Nat → FieldType) (hty : ∀ k, k < N → parseFieldDescriptor (T k).2.2.1 = some (ty k)) (hown : s.vm.findClass own = some m.cls) (hcl : (Cond.classLink own index C).before args s = true) (hinst : (Cond.instantiable C N).before args s = true) (hini : (Cond.initialized C).before args s = true)
    (hK : va_K D cl tys s) (hP : va_P D cl ws H) (hS : va_S A H0 H locs) (hc : cl[ci]? = some (C, T, N)) {fs : List Value} (hfs : ∀ j, j < N → defaultValue (ty j) = vp_V fs j) (hcells : cells + 1 ≤ R.cells) (hslots : slots + N ≤ R.slots) (hdg : decode cc pc = .ok (.new index, 3))
    (kk : ∀ (H1 : Heap), H1.size = H.size + 1 → va_P D cl (ws ++ [(H.size, .inr (ci, fs))]) H1 → va_S A H0 H1 locs →
      W p l e R s m args below meth c H1 locs (cells + 1) (slots + N) Q (F0 m (pc + 3) ls (.ref H.size :: rest))) : W p l e R s m args below meth c H locs cells slots Q (F0 m pc ls rest) := by
  have hKn := hK.1 ci _ hc
  refine W.newcK hexec hb hown hcl hinst hini rfl hdg hcells hslots hKn.2.1 rfl fun H1 kC hkC e1 z1 o1 => ?_
  have hk : ∀ (k : Nat) (x : Nat × va_E), ws[k]? = some x → H1[x.1]? = H[x.1]? := fun k x hx => o1 x.1 ((hP k x hx).lt)
  refine kk H1 z1 ((hP.kept hk).app (fun k x hx => ?_)) ⟨Nat.le_trans hS.1 (by omega), fun x h1 h2 => (o1 x (Nat.lt_of_lt_of_le h1 hS.1)).trans (hS.2.1 x h1 h2), hS.2.2⟩
  have hz : k < 1 := (List.getElem?_eq_some_iff.mp hx).1
  rw [show k = 0 by omega] at hx
  cases hx
  exact ⟨_, hc, (u_born ty hts hin hKn hkC e1 hty).to hfs⟩
end XS
end
section
/-! the machine follows the pure one: cells, ends, calls, a whole run -/
theorem xF_in {own idx ci k pl : Nat} (h : xtb xF own idx = some (ci, k, pl)) : ∃ (C : String) (T : u_T) (N : Nat), vwCl[ci]? = some (C, T, N) ∧ k < N ∧ (T k).1 = C ∧ Cond.fieldLink (xr own) idx C (T k).2.1 (T k).2.2.1 ∈ xB := by
  have h1 := xtb_ok xF_ok h
  unfold xFc at h1
  dsimp only at h1
  split at h1
  next q hq =>
    obtain ⟨C, T, N⟩ := q
    simp only [Bool.and_eq_true, decide_eq_true_eq] at h1
    exact ⟨C, T, N, hq, Nat.blt_eq.mp h1.1.1, h1.1.2, xw_in h1.2⟩
  next => cases h1
theorem xW_in {own idx ci pl : Nat} (h : xtb xW own idx = some (ci, pl)) : ∃ (C : String) (T : u_T) (N : Nat), vwCl[ci]? = some (C, T, N) ∧ Cond.classLink (xr own) idx C ∈ xB := by
  have h1 := xtb_ok xW_ok h
  unfold xNc at h1
  dsimp only at h1
  split at h1
  next q hq =>
    obtain ⟨C, T, N⟩ := q
    exact ⟨C, T, N, hq, xw_in h1⟩
  next => cases h1
theorem xcl_lt {ci : Nat} {q : vw_C} (h : vwCl[ci]? = some q) : ci < 100 := by
  have h1 := (List.getElem?_eq_some_iff.mp h).1
  have h2 : vwCl.length ≤ 100 := by decide
  omega
theorem xfit_ok (B : Nat) (aR : Nat → Nat) {c : Nat} {ty : FieldType} {v : Value} (h1 : xtc c ty = true) (h2 : xfit c v = true) : narrow ty (xv B aR v) = xv B aR v ∧ fits ty (xv B aR v) = true := by
  unfold xtc at h1
  unfold xfit at h2
  revert h1 h2
  generalize c % 10 = j
  intro h1 h2
  split at h2
  next x => split at h1 <;> first | exact ⟨rfl, rfl⟩ | (exfalso; simp_all; done)
  next x =>
    have hx : x = 0 ∨ x = 1 := by simpa using h2
    split at h1 <;> first | (exfalso; simp_all; done) | (rcases hx with rfl | rfl <;> exact ⟨(by decide : narrow .boolean (.int _) = .int _), (by decide : fits .boolean (.int _) = true)⟩)
  next x => split at h1 <;> first | exact ⟨rfl, rfl⟩ | (exfalso; simp_all; done)
  next x => split at h1 <;> first | exact ⟨rfl, rfl⟩ | (exfalso; simp_all; done)
  next x => split at h1 <;> first | exact ⟨rfl, rfl⟩ | (exfalso; simp_all; done)
  next => cases h2
theorem xbif2 {α : Type} {b : Bool} {x y : Option α} {r : α} (h : (bif b then x else y) = some r) (hy : y = none) : b = true ∧ x = some r := by
  subst hy
  exact xbif h
theorem xnar01 {x : Int32} (h : (x == 0 || x == 1) = true) : vp_nar .boolean x = x ∧ narrow .boolean (.int x) = .int x := by
  have hx : x = 0 ∨ x = 1 := by simpa using h
  rcases hx with rfl | rfl <;> exact ⟨by decide, by decide⟩
abbrev xtys (cI cZ cJ : ClassId) : List (ClassId × FieldType) := [(cI, .int), (cZ, .boolean), (cJ, .long)]
theorem xG_in {own idx k pl : Nat} (h : xtb xG own idx = some (k, pl)) : ∃ q ∈ xSt, q.2.2.2.1 = k ∧ Cond.fieldLink (xr own) idx q.1 q.2.1 q.2.2.1 ∈ xB := by
  have h1 := xtb_ok xG_ok h
  unfold xGc at h1
  obtain ⟨q, hq, h2⟩ := List.any_eq_true.mp h1
  simp only [Bool.and_eq_true] at h2
  exact ⟨q, hq, Nat.eq_of_beq_eq_true h2.1, xw_in h2.2⟩
/-- the rows that are read alone: the script (row 0), the statics -/
def xro (B : Nat) (aR : Nat → Nat) (ro : List (List Int32)) (s : State) : Prop :=
  (∀ (k : Nat) (xs : List Int32), ro[k]? = some xs → aR k < B ∧ (k = 0 → va_X (aR k) xs.length (fun j => xs.getD j 0) s s.heap) ∧ (k ≠ 0 → va_T .int (aR k) xs.length (fun j => .int (xs.getD j 0)) (fun q : Nat => B ≤ q) s s.heap)) ∧
  ∀ q ∈ xSt, va_Z q.1 q.2.1 q.2.2.1 (.ref (aR q.2.2.2.1)) (fun q : Nat => B ≤ q) s s.heap
section XS
variable {p : Program} {l : Launch} {e : Env} {R : Room} {s : State} {m : MethodId} {args : Array Value} {below : List Frame} {meth : Method} {c : Code} {H : Heap} {locs : List Loc} {cells slots : Nat} {Q : State → Prop}
variable {cc : ByteArray} {pc : Nat} {lsA : Array Slot} {B : Nat} {aR : Nat → Nat} {cI cZ cJ : ClassId} {D : va_G} {ro : List (List Int32)}
theorem xRl_get {h : xH} {r : Nat} {c0 : xE} (hR : xRl B aR cI cZ cJ D h H) (hh : h[r]? = some c0) : (xwd (xe B aR cI cZ cJ) B h)[r]? = some (B + r, xe B aR cI cZ cJ c0) := by
  rw [xwd_get, hh]
  rfl
theorem xRl_set {h : xH} {r : Nat} {c0 : xE} {x : va_E} {H1 : Heap} (hR : xRl B aR cI cZ cJ D h H) (hz : H1.size = H.size) (hx : x = xe B aR cI cZ cJ c0) (hP : va_P D vwCl ((xwd (xe B aR cI cZ cJ) B h).set r (B + r, x)) H1) : xRl B aR cI cZ cJ D (h.set r c0) H1 := by
  subst hx
  rw [xwd_set] at hP
  exact ⟨by rw [hz, hR.1, List.length_set], hP⟩
theorem xRl_app {h : xH} {c0 : xE} {x : va_E} {H1 : Heap} (hR : xRl B aR cI cZ cJ D h H) (hz : H1.size = H.size + 1) (hx : x = xe B aR cI cZ cJ c0) (hP : va_P D vwCl (xwd (xe B aR cI cZ cJ) B h ++ [(H.size, x)]) H1) : xRl B aR cI cZ cJ D (h ++ [c0]) H1 := by
  subst hx
  rw [hR.1, ← xwd_app] at hP
  exact ⟨by rw [hz, hR.1, List.length_append]; rfl, hP⟩
theorem xset_len {h : xH} {r : Nat} {c0 : xE} : (h.set r c0).length - h.length = 0 := by rw [List.length_set]; omega
theorem xset_sl {h : xH} {r : Nat} {c0 c1 : xE} (hh : h[r]? = some c1) (hl : c0.2.length = c1.2.length) : xsl (h.set r c0) - xsl h = 0 := by rw [xsl_set h r c1 c0 hh hl]; omega
theorem xvV (fs : List Value) (j : Nat) : vp_V (fs.map (xv B aR)) j = xv B aR (vp_V fs j) := by
  unfold vp_V
  rw [List.getD_eq_getElem?_getD, List.getD_eq_getElem?_getD, List.getElem?_map]
  cases fs[j]? <;> rfl
theorem xv_def (ty : FieldType) : xv B aR (defaultValue ty) = defaultValue ty := by cases ty <;> rfl
theorem xrep_i (n : Nat) : (fun j => xai ((List.replicate n (Value.int 0)).getD j .null)) = fun _ => (0 : Int32) := by
  funext j
  rw [List.getD_eq_getElem?_getD, List.getElem?_replicate]
  split <;> rfl
theorem xrep_l (n : Nat) : (fun j => xal ((List.replicate n (Value.long 0)).getD j .null)) = fun _ => (0 : Int64) := by
  funext j
  rw [List.getD_eq_getElem?_getD, List.getElem?_replicate]
  split <;> rfl
theorem xupd_i {vs : List Value} {n : Nat} (x : Int32) (hn : n < vs.length) : upd (fun j => xai (vs.getD j .null)) n x = fun j => xai ((vs.set n (.int x)).getD j .null) := by
  funext j
  simp only [upd, List.getD_eq_getElem?_getD, List.getElem?_set]
  by_cases h : j = n
  · subst h; simp [hn, xai]
  · simp [h, Ne.symm h]
theorem xupd_l {vs : List Value} {n : Nat} (x : Int64) (hn : n < vs.length) : vp_updL (fun j => xal (vs.getD j .null)) n x = fun j => xal ((vs.set n (.long x)).getD j .null) := by
  funext j
  simp only [vp_updL, List.getD_eq_getElem?_getD, List.getElem?_set]
  by_cases h : j = n
  · subst h; simp [hn, xal]
  · simp [h, Ne.symm h]
theorem xget_i {vs : List Value} {n : Nat} {x : Int32} (h : vs[n]? = some (.int x)) : xai (vs.getD n .null) = x := by rw [List.getD_eq_getElem?_getD, h]; rfl
theorem xget_l {vs : List Value} {n : Nat} {x : Int64} (h : vs[n]? = some (.long x)) : xal (vs.getD n .null) = x := by rw [List.getD_eq_getElem?_getD, h]; rfl
theorem xlen_of {α : Type} {vs : List α} {n : Nat} {x : α} (h : vs[n]? = some x) : n < vs.length := (List.getElem?_eq_some_iff.mp h).1
theorem xin_of {j : Int32} {n : Nat} (h1 : ¬ j < 0) (h2 : j.toNatClampNeg < n) : vp_in j n := by
  rintro (h | h)
  · exact h1 h
  · omega
set_option maxHeartbeats 4000000 in
set_option maxRecDepth 100000 in
theorem xho_W {own kind : Nat} {i : Instr} {st st' : List Value} {h h' : xH} (hx : p.tables.exec = Jvm.exec) (hb : c.code = cc) (hown : s.vm.findClass (xr own) = some m.cls) (hts : ∀ w ∈ xB, w.before args s = true)
    (hK : va_K D vwCl (xtys cI cZ cJ) s) (hini : kind = 2 → meth.name = "<init>") (hro : xro B aR ro s) (hsB : B ≤ s.heap.size)
    (hR : xRl B aR cI cZ cJ D h H) (hS : va_S (fun q : Nat => B ≤ q) s.heap H locs) (hd : decode cc pc = .ok (i, xil i)) (h1 : xho ro own kind i st h = some (st', h'))
    (hcells : cells + (h'.length - h.length) ≤ R.cells) (hslots : slots + (xsl h' - xsl h) ≤ R.slots)
    (k : ∀ (H' : Heap) (locs' : List Loc), xRl B aR cI cZ cJ D h' H' → va_S (fun q : Nat => B ≤ q) s.heap H' locs' → W p l e R s m args below meth c H' locs' (cells + (h'.length - h.length)) (slots + (xsl h' - xsl h)) Q (F0 m (pc + xil i) lsA (st'.map (xv B aR)))) :
    W p l e R s m args below meth c H locs cells slots Q (F0 m pc lsA (st.map (xv B aR))) := by
  have hA : ∀ q : Nat, s.heap.size ≤ q → (fun q : Nat => B ≤ q) q := fun q hq => Nat.le_trans hsB hq
  have hDw : va_D (fun q : Nat => B ≤ q) (xwd (xe B aR cI cZ cJ) B h) := xwd_D _ _ _
  have hwA := xA_ok
  simp only [Bool.and_eq_true] at hwA
  unfold xho at h1
  split at h1
  next idx r st0 =>
    split at h1
    next ci k0 pl t fs hf hh =>
      obtain ⟨ht, h1⟩ := xbif h1
      obtain ⟨v, hv, h1⟩ := xmap h1
      cases h1
      obtain rfl := Nat.eq_of_beq_eq_true ht
      obtain ⟨C, T, N, hc, hk, hC, hlink⟩ := xF_in hf
      have he := xRl_get hR hh
      rw [xe_o _ _ _ _ _ (xcl_lt hc)] at he
      have k' := k H locs hR hS
      rw [Nat.sub_self, Nat.sub_self, Nat.add_zero, Nat.add_zero] at k'
      exact va_get hx hb hts (xcl_ok hc).1 hown hK hR.2 r he hc k0 hk (hts _ hlink) (fun x hx => by rw [hC] at hx; exact hx) (by rw [List.getElem?_map, hv]; rfl) hd k'
    next => cases h1
  next idx v r st0 =>
    split at h1
    next ci k0 pl t fs hf hh =>
      obtain ⟨ht, h1⟩ := xbif h1
      simp only [Bool.and_eq_true] at ht
      split at h1
      next cs hcs =>
        split at h1
        next c0 hc0 =>
          obtain ⟨hfit, h1⟩ := xbif h1
          cases h1
          simp only [Bool.and_eq_true, Bool.or_eq_true] at hfit
          obtain rfl := Nat.eq_of_beq_eq_true ht.1
          obtain ⟨C, T, N, hc, hk, hC, hlink⟩ := xF_in hf
          obtain ⟨hin, hty, hnm, -, -, hCr, D', S', hD', hS', -, -, -, hfn⟩ := xcl_ok hc
          cases hcs.symm.trans hS'
          obtain ⟨htc, hfin⟩ := hfn k0 c0 hk hc0
          obtain ⟨hn1, hn2⟩ := xfit_ok B aR htc hfit.1
          have he := xRl_get hR hh
          rw [xe_o _ _ _ _ _ (xcl_lt hc)] at he
          refine xw_put hx hb hts hin (xty t) hty hnm hown hK hR.2 hDw hS r he hc k0 hk (hts _ hlink) (fun x hx => by rw [hC] at hx; exact hx) ?_ hn1 hn2 (by rw [List.length_map]; exact Nat.blt_eq.mp ht.2) hd (fun H1 locs1 hz hP hS1 => ?_)
          · rcases hfit.2 with hlt | ⟨hk2, ho⟩
            · left
              rw [hfin]
              have := Nat.blt_eq.mp hlt
              cases hq : Nat.ble 10 c0 with
              | false => rfl
              | true => have := Nat.ble_eq.mp hq; omega
            · right
              refine ⟨hini (Nat.eq_of_beq_eq_true hk2), ?_⟩
              rw [hC, hCr, Nat.eq_of_beq_eq_true ho]
          · have k' := k H1 locs1 (xRl_set hR hz (by rw [xe_o _ _ _ _ _ (xcl_lt hc), List.map_set]) hP) hS1
            rw [xset_len, xset_sl hh (by simp), Nat.add_zero, Nat.add_zero] at k'
            exact k'
        next => cases h1
      next => cases h1
    next => cases h1
  next j r st0 =>
    split at h1
    next t vs hh =>
      obtain ⟨ht, h1⟩ := xbif h1
      obtain rfl := Nat.eq_of_beq_eq_true ht
      split at h1
      next => cases h1
      next hj =>
        split at h1
        next x hxx =>
          cases h1
          have k' := k H locs hR hS
          rw [Nat.sub_self, Nat.sub_self, Nat.add_zero, Nat.add_zero] at k'
          refine va_iald hx hb hK hR.2 r 0 (xRl_get hR hh) rfl (xin_of hj (xlen_of hxx)) hd ?_
          rw [xget_i hxx]
          exact k'
        next => cases h1
    next => cases h1
  next j q0 st0 =>
    split at h1
    next xs hxs =>
      split at h1
      next => cases h1
      next hj =>
        obtain ⟨x, hxx, h1⟩ := xmap h1
        cases h1
        have k' := k H locs hR hS
        rw [Nat.sub_self, Nat.sub_self, Nat.add_zero, Nat.add_zero] at k'
        obtain ⟨hlt, hX, hT⟩ := hro.1 _ _ hxs
        have hgx : xs.getD j.toNatClampNeg 0 = x := by rw [List.getD_eq_getElem?_getD, hxx]; rfl
        by_cases hq0 : q0 = 0
        · refine va_sld hx hb (hX hq0) (Nat.lt_of_lt_of_le hlt hsB) (Nat.not_le.mpr hlt) hS (xin_of hj (xlen_of hxx)) hd ?_
          rw [hgx]
          exact k'
        · exact va_ti hx hb (hT hq0) hS (xin_of hj (xlen_of hxx)) (v := .int x) (by rw [hgx]) hd k'
    next => cases h1
  next j r st0 =>
    split at h1
    next t vs hh =>
      obtain ⟨ht, h1⟩ := xbif h1
      obtain rfl := Nat.eq_of_beq_eq_true ht
      split at h1
      next => cases h1
      next hj =>
        split at h1
        next x hxx =>
          cases h1
          have k' := k H locs hR hS
          rw [Nat.sub_self, Nat.sub_self, Nat.add_zero, Nat.add_zero] at k'
          refine va_zald hx hb hK hR.2 r 1 (xRl_get hR hh) rfl (xin_of hj (xlen_of hxx)) hd ?_
          rw [xget_i hxx]
          exact k'
        next => cases h1
    next => cases h1
  next j r st0 =>
    split at h1
    next t vs hh =>
      obtain ⟨ht, h1⟩ := xbif h1
      obtain rfl := Nat.eq_of_beq_eq_true ht
      split at h1
      next => cases h1
      next hj =>
        split at h1
        next x hxx =>
          cases h1
          have k' := k H locs hR hS
          rw [Nat.sub_self, Nat.sub_self, Nat.add_zero, Nat.add_zero] at k'
          refine va_lald hx hb hK hR.2 r 2 (xRl_get hR hh) rfl (xin_of hj (xlen_of hxx)) hd ?_
          rw [xget_l hxx]
          exact k'
        next => cases h1
    next => cases h1
  next x j r st0 =>
    split at h1
    next t vs hh =>
      obtain ⟨ht, h1⟩ := xbif h1
      simp only [Bool.and_eq_true] at ht
      obtain rfl := Nat.eq_of_beq_eq_true ht.1
      have hlt := Nat.blt_eq.mp ht.2
      split at h1
      next => cases h1
      next hj =>
        cases h1
        refine xw_iast hx hb hK hR.2 hDw hS r 0 (xRl_get hR hh) rfl (xin_of hj hlt) hd (fun H1 locs1 hz hP hS1 => ?_)
        have k' := k H1 locs1 (xRl_set hR hz (by rw [xe_i, xupd_i x hlt, List.length_set]) hP) hS1
        rw [xset_len, xset_sl hh (by simp), Nat.add_zero, Nat.add_zero] at k'
        exact k'
    next => cases h1
  next x j r st0 =>
    split at h1
    next t vs hh =>
      obtain ⟨ht, h1⟩ := xbif h1
      simp only [Bool.and_eq_true] at ht
      obtain rfl := Nat.eq_of_beq_eq_true ht.1.1
      have hlt := Nat.blt_eq.mp ht.1.2
      split at h1
      next => cases h1
      next hj =>
        cases h1
        refine xw_zast hx hb hK hR.2 hDw hS r 1 (xRl_get hR hh) rfl (xin_of hj hlt) (xnar01 ht.2).1 hd (fun H1 locs1 hz hP hS1 => ?_)
        have k' := k H1 locs1 (xRl_set hR hz (by rw [xe_z, xupd_i x hlt, List.length_set]) hP) hS1
        rw [xset_len, xset_sl hh (by simp), Nat.add_zero, Nat.add_zero] at k'
        exact k'
    next => cases h1
  next x j r st0 =>
    split at h1
    next t vs hh =>
      obtain ⟨ht, h1⟩ := xbif h1
      simp only [Bool.and_eq_true] at ht
      obtain rfl := Nat.eq_of_beq_eq_true ht.1
      have hlt := Nat.blt_eq.mp ht.2
      split at h1
      next => cases h1
      next hj =>
        cases h1
        refine xw_last hx hb hK hR.2 hDw hS r 2 (xRl_get hR hh) rfl (xin_of hj hlt) hd (fun H1 locs1 hz hP hS1 => ?_)
        have k' := k H1 locs1 (xRl_set hR hz (by rw [xe_l, xupd_l x hlt, List.length_set]) hP) hS1
        rw [xset_len, xset_sl hh (by simp), Nat.add_zero, Nat.add_zero] at k'
        exact k'
    next => cases h1
  next q0 st0 =>
    obtain ⟨hq0, h1⟩ := xbif h1
    obtain ⟨xs, hxs, h1⟩ := xmap h1
    cases h1
    have k' := k H locs hR hS
    rw [Nat.sub_self, Nat.sub_self, Nat.add_zero, Nat.add_zero] at k'
    obtain ⟨hlt, hX, hT⟩ := hro.1 _ _ hxs
    exact va_slen hx hb (hX (Nat.eq_of_beq_eq_true hq0)) (Nat.lt_of_lt_of_le hlt hsB) (Nat.not_le.mpr hlt) hS hd k'
  next r st0 =>
    split at h1
    next t vs hh =>
      obtain ⟨ht, h1⟩ := xbif h1
      obtain rfl := Nat.eq_of_beq_eq_true ht
      cases h1
      have k' := k H locs hR hS
      rw [Nat.sub_self, Nat.sub_self, Nat.add_zero, Nat.add_zero] at k'
      exact va_alen hx hb hK hR.2 r 0 (xRl_get hR hh) rfl (v := Int32.ofNat vs.length) rfl hd k'
    next => cases h1
  next idx st0 =>
    obtain ⟨kp, hkp, h1⟩ := xmap h1
    cases h1
    have k' := k H locs hR hS
    rw [Nat.sub_self, Nat.sub_self, Nat.add_zero, Nat.add_zero] at k'
    obtain ⟨q, hq, hk2, hlink⟩ := xG_in (k := kp.1) (pl := kp.2) hkp
    have hz := hro.2 q hq
    rw [hk2] at hz
    exact va_gets hx hb hz hS hown (hts _ hlink) (fun x hx => hx) hd k'
  next idx st0 =>
    split at h1
    next ci pl hf =>
      obtain ⟨fs, hfs, h1⟩ := xmap h1
      cases h1
      obtain ⟨C, T, N, hc, hlink⟩ := xW_in hf
      obtain ⟨hin, hty, hnm, hi1, hi2, hCr, D', S', hD', hS', hDl, -, hdf, -⟩ := xcl_ok hc
      cases hfs.symm.trans hD'
      have e1 : (h ++ [(ci, fs)]).length - h.length = 1 := by simp
      have e2 : xsl (h ++ [(ci, fs)]) - xsl h = N := by rw [xsl_app, hDl]; omega
      rw [e1] at hcells k
      rw [e2] at hslots k
      refine xw_new (fs := fs.map (xv B aR)) hx hb hts hin (xty ci) hty hown (hts _ hlink) (hts _ hi1) (hts _ hi2) hK hR.2 hS hc (fun j hj => by rw [xvV, ← hdf j hj, xv_def]) hcells hslots hd (fun H1 hz hP hS1 => ?_)
      have k' := k H1 locs (xRl_app hR hz (by rw [xe_o _ _ _ _ _ (xcl_lt hc)]) hP) hS1
      rw [hR.1]
      exact k'
    next => cases h1
  next n st0 =>
    split at h1
    next => cases h1
    next hn =>
      cases h1
      have e1 : ∀ v : Value, (h ++ [(100, List.replicate n.toNatClampNeg v)]).length - h.length = 1 := fun v => by simp
      have e2 : ∀ v : Value, xsl (h ++ [(100, List.replicate n.toNatClampNeg v)]) - xsl h = n.toNatClampNeg := fun v => by rw [xsl_app, List.length_replicate]; omega
      rw [e1] at hcells k
      rw [e2] at hslots k
      refine xw_newa (t0 := 0) (a0 := (n.toNatClampNeg, .inl fun _ => 0)) hx hb (ty := .int) rfl (fun _ h => by cases h) (hts _ (xw_in hwA.1.1.1.1)) rfl hK hR.2 hS hA (fun cA => rfl) (fun q => hn (Or.inl q)) rfl (by have : ¬ 100000 < n.toNatClampNeg := fun q => hn (Or.inr q); show _ * 4 ≤ _; omega) hcells hslots hd (fun H1 hz hP hS1 => ?_)
      have k' := k H1 locs (xRl_app hR hz (by rw [xe_i, xrep_i, List.length_replicate]) hP) hS1
      rw [hR.1]
      exact k'
  next n st0 =>
    split at h1
    next => cases h1
    next hn =>
      cases h1
      have e1 : ∀ v : Value, (h ++ [(101, List.replicate n.toNatClampNeg v)]).length - h.length = 1 := fun v => by simp
      have e2 : ∀ v : Value, xsl (h ++ [(101, List.replicate n.toNatClampNeg v)]) - xsl h = n.toNatClampNeg := fun v => by rw [xsl_app, List.length_replicate]; omega
      rw [e1] at hcells k
      rw [e2] at hslots k
      refine xw_newa (t0 := 1) (a0 := (n.toNatClampNeg, .inl fun _ => 0)) hx hb (ty := .boolean) rfl (fun _ h => by cases h) (hts _ (xw_in hwA.1.1.1.2)) rfl hK hR.2 hS hA (fun cA => rfl) (fun q => hn (Or.inl q)) rfl (by have : ¬ 100000 < n.toNatClampNeg := fun q => hn (Or.inr q); show _ * 1 ≤ _; omega) hcells hslots hd (fun H1 hz hP hS1 => ?_)
      have k' := k H1 locs (xRl_app hR hz (by rw [xe_z, xrep_i, List.length_replicate]) hP) hS1
      rw [hR.1]
      exact k'
  next n st0 =>
    split at h1
    next => cases h1
    next hn =>
      cases h1
      have e1 : ∀ v : Value, (h ++ [(102, List.replicate n.toNatClampNeg v)]).length - h.length = 1 := fun v => by simp
      have e2 : ∀ v : Value, xsl (h ++ [(102, List.replicate n.toNatClampNeg v)]) - xsl h = n.toNatClampNeg := fun v => by rw [xsl_app, List.length_replicate]; omega
      rw [e1] at hcells k
      rw [e2] at hslots k
      refine xw_newa (t0 := 2) (a0 := (n.toNatClampNeg, .inr (.inl fun _ => 0))) hx hb (ty := .long) rfl (fun _ h => by cases h) (hts _ (xw_in hwA.1.1.2)) rfl hK hR.2 hS hA (fun cA => rfl) (fun q => hn (Or.inl q)) rfl (by have : ¬ 100000 < n.toNatClampNeg := fun q => hn (Or.inr q); show _ * 8 ≤ _; omega) hcells hslots hd (fun H1 hz hP hS1 => ?_)
      have k' := k H1 locs (xRl_app hR hz (by rw [xe_l, xrep_l, List.length_replicate]) hP) hS1
      rw [hR.1]
      exact k'
  next => cases h1
end XS
end
section
/-! a whole run of the pure machine is a run of the machine -/
def xNst (w : Cond) : Bool := match w with
  | .methodLinkNest _ _ _ _ => true
  | _ => false
/-- the links between nest mates -/
def xNw : List Cond := lw_tbl.filter xNst
theorem xml_get : ∀ (a : List xQ) (b : List xNt), xml a b → ∀ (k : Nat) (q : xQ) (y : xNt), a[k]? = some q → b[k]? = some y → k + 1 < a.length → xgt y.2.2.2.1 = some (.code y.1 y.2.1 q.2.1 y.2.2.1)
  | [], _, _, k, q, y, h, _, _ => by simp at h
  | [q0], _, _, k, q, y, h, _, hl => by simp at hl
  | q0 :: q1 :: a, [], _, k, q, y, _, h, _ => by simp at h
  | q0 :: q1 :: a, y0 :: b, hx, k, q, y, ha, hb, hl => by
    have hx : xgt y0.2.2.2.1 = some (.code y0.1 y0.2.1 q0.2.1 y0.2.2.1) ∧ xml (q1 :: a) b := hx
    cases k with
    | zero =>
      simp only [List.getElem?_cons_zero, Option.some.injEq] at ha hb
      subst ha; subst hb
      exact hx.1
    | succ k =>
      simp only [List.getElem?_cons_succ] at ha hb
      exact xml_get (q1 :: a) b hx.2 k q y ha hb (by simp only [List.length_cons] at hl ⊢; omega)
theorem xdl_get : ∀ (a : List xQ) (b : List xNt), xdl a b → ∀ (k : Nat) (q : xQ) (y : xNt), a[k]? = some q → b[k]? = some y → xdc y.2.1 q.2.2.2.2 = true
  | [], _, _, k, q, y, h, _ => by simp at h
  | q0 :: a, [], _, k, q, y, _, h => by simp at h
  | q0 :: a, y0 :: b, hx, k, q, y, ha, hb => by
    have hx : xdc y0.2.1 q0.2.2.2.2 = true ∧ xdl a b := hx
    cases k with
    | zero =>
      simp only [List.getElem?_cons_zero, Option.some.injEq] at ha hb
      subst ha; subst hb
      exact hx.1
    | succ k =>
      simp only [List.getElem?_cons_succ] at ha hb
      exact xdl_get a b hx.2 k q y ha hb
theorem xlen_eq : xN.length = xM.length ∧ xOw < xM.length := by decide +kernel
/-- what is known of a walked method -/
def xMf (q : xQ) (y : xNt) : Prop := y.1.cls = xr q.1 ∧ y.2.2.1 = xrc q.2.2.2.1 ∧ Cond.code y.1 y.2.1 q.2.1 y.2.2.1 ∈ xB ∧ Cond.initialized y.1.cls ∈ xB ∧ q.2.1 ≤ 60 ∧ plainName y.1.cls = true ∧
  (y.1.cls ≠ "java/lang/invoke/MethodHandle" ∧ y.1.cls ≠ "java/lang/invoke/VarHandle") ∧ (q.2.2.1 = 0 → Cond.static y.1 ∈ xB) ∧ (q.2.2.1 = 1 → Cond.instanceMethod y.1 ∈ xB ∧ Cond.selects y.1.cls y.1 y.1 ∈ xB) ∧
  (q.2.2.1 = 2 → Cond.instanceMethod y.1 ∈ xB ∧ y.1.name = "<init>" ∧ q.2.2.2.1 = 0) ∧ xdc y.2.1 q.2.2.2.2 = true
theorem xM_facts {k : Nat} {q : xQ} (h : xM[k]? = some q) (hk : k < xOw) : ∃ y, xN[k]? = some y ∧ xMf q y := by
  have hkl : k < xN.length := by rw [xlen_eq.1]; exact (List.getElem?_eq_some_iff.mp h).1
  obtain ⟨y, hy⟩ : ∃ y, xN[k]? = some y := ⟨xN[k], List.getElem?_eq_getElem hkl⟩
  have hm : (q, y) ∈ (xM.zip xN).take xOw := by
    refine List.mem_of_getElem? (i := k) ?_
    rw [List.getElem?_take_of_lt hk]
    exact List.getElem?_zip_eq_some.mpr ⟨h, hy⟩
  have h1 := List.all_eq_true.mp xM_ok _ hm
  unfold xMc at h1
  simp only [Bool.and_eq_true, decide_eq_true_eq] at h1
  obtain ⟨⟨⟨⟨⟨⟨⟨g1, g2⟩, g3⟩, g4⟩, g5⟩, g6⟩, g7⟩, g8⟩ := h1
  have hcode : Cond.code y.1 y.2.1 q.2.1 y.2.2.1 ∈ xB := List.mem_filter.mpr ⟨xgt_in (xml_get xM xN xm_all k q y h hy (by have := xlen_eq.2; omega)), rfl⟩
  refine ⟨y, hy, g1, g2, hcode, xw_in g3, Nat.ble_eq.mp g4, g5, ⟨g6, g7⟩, fun z => ?_, fun z => ?_, fun z => ?_, xdl_get xM xN xd_all k q y h hy⟩
  · rw [z] at g8
    exact xw_in g8
  · rw [z] at g8
    simp only [Bool.and_eq_true] at g8
    exact ⟨xw_in g8.1, xw_in g8.2⟩
  · rw [z] at g8
    simp only [Bool.and_eq_true, decide_eq_true_eq] at g8
    exact ⟨xw_in g8.1.1, g8.1.2, Nat.eq_of_beq_eq_true g8.2⟩
theorem xcg_ok {b : ByteArray} {c : xK} {pc : Nat} {i : Instr} (hd : xdc b c = true) (h : xcg c pc = some i) : ∃ n, decode b pc = .ok (i, n) ∧ (n = xil i ∨ (∃ a b d o, i = .tableswitch a b d o) ∨ ∃ a b, i = .lookupswitch a b) := by
  unfold xcg at h
  split at h
  next ch hch =>
    have h1 := List.all_eq_true.mp (List.all_eq_true.mp hd ch (List.mem_of_getElem? hch)) _ (xfd_mem h)
    dsimp only at h1
    split at h1
    next i' n hdec =>
      simp only [Bool.and_eq_true, decide_eq_true_eq] at h1
      obtain ⟨rfl, h2⟩ := h1
      refine ⟨n, hdec, ?_⟩
      split at h2
      next => exact Or.inr (Or.inl ⟨_, _, _, _, rfl⟩)
      next => exact Or.inr (Or.inr ⟨_, _, rfl⟩)
      next => exact Or.inl (Nat.eq_of_beq_eq_true h2)
    next => cases h1
  next => cases h
theorem xnsw {i : Instr} {n : Nat} (hn : n = xil i ∨ (∃ a b d o, i = .tableswitch a b d o) ∨ ∃ a b, i = .lookupswitch a b) (h1 : ∀ a b d o, i ≠ .tableswitch a b d o) (h2 : ∀ a b, i ≠ .lookupswitch a b) : n = xil i := by
  rcases hn with h | ⟨a, b, d, o, h⟩ | ⟨a, b, h⟩
  · exact h
  · exact absurd h (h1 a b d o)
  · exact absurd h (h2 a b)
theorem xho_mono {ro : List (List Int32)} {own kind : Nat} {i : Instr} {st st' : List Value} {h h' : xH} (h1 : xho ro own kind i st h = some (st', h')) : h.length ≤ h'.length ∧ xsl h ≤ xsl h' := by
  have same : h.length ≤ h.length ∧ xsl h ≤ xsl h := ⟨Nat.le_refl _, Nat.le_refl _⟩
  have app : ∀ c : xE, h.length ≤ (h ++ [c]).length ∧ xsl h ≤ xsl (h ++ [c]) := fun c => ⟨by simp, by rw [xsl_app]; omega⟩
  have set : ∀ (r : Nat) (c c' : xE), h[r]? = some c → c'.2.length = c.2.length → h.length ≤ (h.set r c').length ∧ xsl h ≤ xsl (h.set r c') := fun r c c' hh hl => ⟨by simp, by rw [xsl_set h r c c' hh hl]; exact Nat.le_refl _⟩
  unfold xho at h1
  split at h1
  next idx r st0 =>
    split at h1
    next ci k0 pl t fs hf hh => obtain ⟨ht, h1⟩ := xbif h1; obtain ⟨v, hv, h1⟩ := xmap h1; cases h1; exact same
    next => cases h1
  next idx v r st0 =>
    split at h1
    next ci k0 pl t fs hf hh =>
      obtain ⟨ht, h1⟩ := xbif h1
      split at h1
      next cs hcs =>
        split at h1
        next c0 hc0 => obtain ⟨hfit, h1⟩ := xbif h1; cases h1; exact set _ _ _ hh (by simp)
        next => cases h1
      next => cases h1
    next => cases h1
  next j r st0 =>
    split at h1
    next t vs hh =>
      obtain ⟨ht, h1⟩ := xbif h1
      split at h1
      next => cases h1
      next => split at h1 <;> first | (cases h1; done) | (cases h1; exact same)
    next => cases h1
  next j q0 st0 =>
    split at h1
    next xs hxs =>
      split at h1
      next => cases h1
      next => obtain ⟨x, hxx, h1⟩ := xmap h1; cases h1; exact same
    next => cases h1
  next j r st0 =>
    split at h1
    next t vs hh =>
      obtain ⟨ht, h1⟩ := xbif h1
      split at h1
      next => cases h1
      next => split at h1 <;> first | (cases h1; done) | (cases h1; exact same)
    next => cases h1
  next j r st0 =>
    split at h1
    next t vs hh =>
      obtain ⟨ht, h1⟩ := xbif h1
      split at h1
      next => cases h1
      next => split at h1 <;> first | (cases h1; done) | (cases h1; exact same)
    next => cases h1
  next x j r st0 =>
    split at h1
    next t vs hh =>
      obtain ⟨ht, h1⟩ := xbif h1
      split at h1
      next => cases h1
      next => cases h1; exact set _ _ _ hh (by simp)
    next => cases h1
  next x j r st0 =>
    split at h1
    next t vs hh =>
      obtain ⟨ht, h1⟩ := xbif h1
      split at h1
      next => cases h1
      next => cases h1; exact set _ _ _ hh (by simp)
    next => cases h1
  next x j r st0 =>
    split at h1
    next t vs hh =>
      obtain ⟨ht, h1⟩ := xbif h1
      split at h1
      next => cases h1
      next => cases h1; exact set _ _ _ hh (by simp)
    next => cases h1
  next q0 st0 => obtain ⟨-, h1⟩ := xbif h1; obtain ⟨xs, hxs, h1⟩ := xmap h1; cases h1; exact same
  next r st0 =>
    split at h1
    next t vs hh => obtain ⟨-, h1⟩ := xbif h1; cases h1; exact same
    next => cases h1
  next idx st0 => obtain ⟨xs, hxs, h1⟩ := xmap h1; cases h1; exact same
  next idx st0 =>
    split at h1
    next ci pl hf => obtain ⟨fs, hfs, h1⟩ := xmap h1; cases h1; exact app _
    next => cases h1
  next n st0 => split at h1 <;> first | (cases h1; done) | (cases h1; exact app _)
  next n st0 => split at h1 <;> first | (cases h1; done) | (cases h1; exact app _)
  next n st0 => split at h1 <;> first | (cases h1; done) | (cases h1; exact app _)
  next => cases h1
theorem xcpy_len (vs ws : List Value) (sp dp n : Nat) : (xcpy vs ws sp dp n).length = ws.length := by simp [xcpy]
theorem xay_mono {own : Nat} {i : Instr} {st st' : List Value} {h h' : xH} (e : xay own i st h = some (st', h')) : h'.length = h.length ∧ xsl h' = xsl h := by
  unfold xay at e
  split at e
  next =>
    split at e
    next hs hd =>
      obtain ⟨-, e⟩ := xbif e
      split at e
      next => cases e
      next => cases e; exact ⟨by simp, xsl_set h _ _ _ hd (xcpy_len _ _ _ _ _)⟩
    next => cases e
  next => cases e
theorem ev_mono {ro : List (List Int32)} : ∀ (n : Nat) {d : Nat} {q : xQ} {pc : Nat} {ls : xL} {st : List Value} {h : xH} {r : Option Value} {h2 : xH}, ev ro n d q pc ls st h = some (r, h2) → h.length ≤ h2.length ∧ xsl h ≤ xsl h2 := by
  intro n
  induction n with
  | zero => intro d q pc ls st h r h2 hev; simp [ev] at hev
  | succ n ih =>
    intro d q pc ls st h r h2 hev
    rw [ev] at hev
    split at hev
    next => cases hev
    next i hi =>
      split at hev
      next => exact ih hev
      next =>
        split at hev
        next => exact ih hev
        next =>
          split at hev
          next st' h' hh =>
            have := ih hev
            have h3 := xho_mono hh
            exact ⟨Nat.le_trans h3.1 this.1, Nat.le_trans h3.2 this.2⟩
          next =>
            split at hev
            next => cases hev; exact ⟨Nat.le_refl _, Nat.le_refl _⟩
            next =>
              split at hev
              next => cases hev
              next d' =>
                split at hev
                next => exact ih (xbif hev).2
                next =>
                  split at hev
                  next => exact ih (xbif hev).2
                  next =>
                   split at hev
                   next hay =>
                     have g1 := xay_mono hay
                     have g2 := ih (xbif hev).2
                     exact ⟨by omega, by omega⟩
                   next =>
                    split at hev
                    next => cases hev
                    next y as rest hca =>
                      split at hev
                      next => cases hev
                      next q' hq' =>
                        obtain ⟨-, hev⟩ := xbif hev
                        split at hev
                        next => cases hev
                        next r1 h' he1 =>
                          have g1 := ih he1
                          have g2 := ih hev
                          exact ⟨Nat.le_trans g1.1 g2.1, Nat.le_trans g1.2 g2.2⟩
theorem xtk_ok : ∀ (n : Nat) (acc st as rest : List Value), xtk n acc st = some (as, rest) → ∃ f : List Value, f.length = n ∧ as = f.reverse ++ acc ∧ st = f ++ rest
  | 0, acc, st, as, rest, h => by
    simp only [xtk, Option.some.injEq, Prod.mk.injEq] at h
    exact ⟨[], rfl, by simp [h.1], by simp [h.2]⟩
  | n + 1, acc, [], as, rest, h => by simp [xtk] at h
  | n + 1, acc, v :: st, as, rest, h => by
    rw [xtk] at h
    obtain ⟨f, h1, h2, h3⟩ := xtk_ok n (v :: acc) st as rest h
    exact ⟨v :: f, by simp [h1], by simp [h2], by simp [h3]⟩
theorem xtk_o {n : Nat} {st as rest : List Value} (h : xtk n [] st = some (as, rest)) : as.length = n ∧ st = as.reverse ++ rest := by
  obtain ⟨f, h1, h2, h3⟩ := xtk_ok n [] st as rest h
  simp only [List.append_nil] at h2
  subst h2
  exact ⟨by simp [h1], by simp [h3]⟩
theorem xlv_args (B : Nat) (aR : Nat → Nat) : ∀ (as : List Value) (k : Nat), lv_args k (as.map (xv B aR)) = xvl B aR (lv_args k as)
  | [], k => rfl
  | v :: as, k => by
    simp only [List.map_cons, lv_args, xvl, xv_cat]
    rw [xlv_args B aR as]
    rfl
theorem xlg_len (B : Nat) (aR : Nat → Nat) (as : List Value) : (lg_sl (as.map (xv B aR))).length = xcs as := by
  have hc : ∀ v : Value, ((fun v : Value => if v.category = 2 then [Slot.val v, .second] else [.val v]) (xv B aR v)).length = v.category := by
    intro v
    cases v <;> rfl
  unfold lg_sl xcs
  rw [List.length_flatMap, List.map_map]
  congr 1
  apply List.map_congr_left
  intro v _
  exact hc v
theorem xcs_map (B : Nat) (aR : Nat → Nat) (as : List Value) : ((as.map (xv B aR)).map fun v => v.category).sum = xcs as := by
  unfold xcs
  rw [List.map_map]
  congr 1
  apply List.map_congr_left
  intro v _
  exact xv_cat B aR v
end
section
/-! contracts out of runs of the pure machine -/
abbrev xIn (B : Nat) : Nat → Prop := fun q => B ≤ q
/-- what a frame of method q knows -/
def xFx (B : Nat) (aR : Nat → Nat) (cI cZ cJ : ClassId) (D : va_G) (ro : List (List Int32)) (q : xQ) (y : xNt) (p : Program) (s : State) (m : MethodId) (args : Array Value) (meth : Method) (c : Code) : Prop :=
  p.tables.exec = Jvm.exec ∧ c.code = y.2.1 ∧ c.maxLocals = q.2.1 ∧ s.vm.findClass (xr q.1) = some m.cls ∧ (∀ w ∈ xB, w.before args s = true) ∧ va_K D vwCl (xtys cI cZ cJ) s ∧ (q.2.2.1 = 2 → meth.name = "<init>") ∧
  xro B aR ro s ∧ B ≤ s.heap.size ∧ (∀ w ∈ xNw, va_Nw w s) ∧ xdc y.2.1 q.2.2.2.2 = true
def xPc (B : Nat) (aR : Nat → Nat) (cI cZ cJ : ClassId) (D : va_G) (ro : List (List Int32)) (as : List Value) (h : xH) : Array Value → State → Prop := fun a U =>
  a = (as.map (xv B aR)).toArray ∧ xRl B aR cI cZ cJ D h U.heap ∧ va_K D vwCl (xtys cI cZ cJ) U ∧ xro B aR ro U ∧ ∀ w ∈ xNw, va_Nw w U
def xQc (B : Nat) (aR : Nat → Nat) (cI cZ cJ : ClassId) (D : va_G) (r : Option Value) (h : xH) : Array Value → State → Outcome → State → Prop := fun _ st o t =>
  o = .returned (r.map (xv B aR)) ∧ xRl B aR cI cZ cJ D h t.heap ∧ va_F (xIn B) st t
/-- a run with fuel n is a walk -/
def xSnd (ro : List (List Int32)) (n : Nat) : Prop :=
  ∀ (d : Nat) (q : xQ) (pc : Nat) (ls : xL) (st : List Value) (h : xH) (r : Option Value) (h2 : xH), ev ro n d q pc ls st h = some (r, h2) →
  ∀ (B : Nat) (aR : Nat → Nat) (cI cZ cJ : ClassId) (D : va_G) (y : xNt) (p : Program) (l : Launch) (e : Env) (R : Room) (s : State) (m : MethodId) (args : Array Value) (below : List Frame) (meth : Method) (c : Code) (H : Heap) (locs : List Loc) (cells slots : Nat) (Q : State → Prop) (lsA : Array Slot),
  xFx B aR cI cZ cJ D ro q y p s m args meth c → lv_has lsA q.2.1 (xvl B aR ls) → xRl B aR cI cZ cJ D h H → va_S (xIn B) s.heap H locs → d ≤ R.frames → 100 * d ≤ R.locals →
  cells + (h2.length - h.length) ≤ R.cells → slots + (xsl h2 - xsl h) ≤ R.slots →
  (∀ (pc' : Nat) (lsB : Array Slot) (H' : Heap) (locs' : List Loc) (st' : List Value) (i : Instr), decode y.2.1 pc' = .ok (i, 1) → xrt q.2.2.2.1 i st' = some r → xRl B aR cI cZ cJ D h2 H' → va_S (xIn B) s.heap H' locs' →
    W p l e R s m args below meth c H' locs' (cells + (h2.length - h.length)) (slots + (xsl h2 - xsl h)) Q (F0 m pc' lsB (st'.map (xv B aR)))) →
  W p l e R s m args below meth c H locs cells slots Q (F0 m pc lsA (st.map (xv B aR)))
theorem xro_moved {B : Nat} {aR : Nat → Nat} {ro : List (List Int32)} {u U : State} (hvm : u.vm.Alike U.vm) (hsz : B ≤ u.heap.size) (hk : ∀ q : Nat, q < u.heap.size → q < B → U.heap[q]? = u.heap[q]?) (h : xro B aR ro u) : xro B aR ro U := by
  refine ⟨fun k xs hx => ?_, fun q hq => ?_⟩
  · obtain ⟨h1, h2, h3⟩ := h.1 k xs hx
    exact ⟨h1, fun z => ((h2 z).kept (hk _ (Nat.lt_of_lt_of_le h1 hsz) h1)).moved hvm, fun z => va_T.moved hvm (va_T.kept (h3 z) (fun a ha hn => hk a ha (Nat.not_le.mp hn)))⟩
  · exact va_Z.moved hvm (va_Z.kept (h.2 q hq) (fun a ha hn => hk a ha (Nat.not_le.mp hn)))
theorem xPc_blind {B : Nat} {aR : Nat → Nat} {cI cZ cJ : ClassId} {D : va_G} {ro : List (List Int32)} {as : List Value} {h : xH} : FrameBlind (xPc B aR cI cZ cJ D ro as h) := by
  intro a U g mk ⟨h1, h2, h3, h4, h5⟩
  refine ⟨h1, h2, va_K.moved (u := U) (U := U.calling g mk a) (Vm.Alike.refl U.vm) h3, xro_moved (u := U) (U := U.calling g mk a) (Vm.Alike.refl U.vm) (by rw [h2.1]; exact Nat.le_add_right _ _) (fun _ _ _ => rfl) h4, fun w hw => ?_⟩
  have hw2 := (List.mem_filter.mp hw).2
  have hon : w.onTables = true := by
    unfold xNst at hw2
    split at hw2
    · rfl
    · cases hw2
  exact va_Nw.same hon (u := U) (U := U.calling g mk a) rfl (h5 w hw)
theorem xNw_warm {s U : State} (hW : s.WarmedH U.vm) (h : ∀ w ∈ xNw, va_Nw w s) : ∀ w ∈ xNw, va_Nw w U := by
  intro w hw
  have hw2 := (List.mem_filter.mp hw).2
  unfold xNst at hw2
  split at hw2
  · exact va_Nw.warmM hW (h _ hw)
  · cases hw2
theorem xgood_in {q : xQ} {y : xNt} (F : xMf q y) : GoodIn xB (Cond.code y.1 y.2.1 q.2.1 y.2.2.1 :: xB) := by
  intro w hw
  rcases List.mem_cons.mp hw with rfl | hw
  · exact ⟨F.2.2.1, good_of_word (xB_good F.2.2.1)⟩
  · exact ⟨hw, good_of_word (xB_good hw)⟩
set_option maxHeartbeats 4000000 in
/-- a method's contract out of its run -/
theorem xmet {ro : List (List Int32)} {n d : Nat} (ih : xSnd ro n) {q : xQ} {y : xNt} {as : List Value} {h : xH} {r : Option Value} {h2 : xH} (F : xMf q y) (hev : ev ro n d q 0 (lv_args 0 as) [] h = some (r, h2)) (has : xcs as ≤ q.2.1)
    (l : Launch) (B : Nat) (aR : Nat → Nat) (cI cZ cJ : ClassId) (D : va_G) :
    Met l y.1 (Cond.code y.1 y.2.1 q.2.1 y.2.2.1 :: xB) ({ frames := d, cells := h2.length - h.length, slots := xsl h2 - xsl h, locals := 100 * d }) (xPc B aR cI cZ cJ D ro as h) (xQc B aR cI cZ cJ D r h2) (h2.length - h.length) (xsl h2 - xsl h) (xIn B) := by
  obtain ⟨g1, g2, g3, g4, g5, g6, g7, g8, g9, g10, g11⟩ := F
  refine Met.ofW (cc := y.2.1) (maxL := q.2.1) (ret := y.2.2.1) g6 rfl ?_
  intro p e s m args below meth c s₁ Bd hml hv
  obtain ⟨rfl, hRl, hK, hro, hNw⟩ := hv
  have hts := atoms_spec (ws := Cond.code y.1 y.2.1 q.2.1 y.2.2.1 :: xB) Bd.pre
  have hown : s.vm.findClass (xr q.1) = some m.cls := g1 ▸ findClass_of_methodNamed Bd.named
  have hlocks := Bd.notSynchronized
  have hsB : B ≤ s.heap.size := by rw [hRl.1]; exact Nat.le_add_right _ _
  have hl := lv_entry (as.map (xv B aR)) (n := q.2.1) (by rw [xlg_len]; exact has)
  rw [xlv_args] at hl
  rw [lg_entry_eq]
  refine ih d q 0 (lv_args 0 as) [] h r h2 hev B aR cI cZ cJ D y p l e _ s m _ below meth c s.heap [] 0 0 _ _ ⟨Bd.exec, Bd.bytes, hml, hown, fun w hw => hts w (List.mem_cons_of_mem _ hw), hK, fun hk => ?_, hro, hsB, hNw, g11⟩ hl hRl va_S.rf (Nat.le_refl _) (Nat.le_refl _) (by rw [Nat.zero_add]; exact Nat.le_refl _) (by rw [Nat.zero_add]; exact Nat.le_refl _) ?_
  · exact (name_of_methodNamed Bd.named Bd.method).1.trans (g10 hk).2.1
  · intro pc' lsB H' locs' st' i hdec hrt hRl' hS'
    have hr := Bd.returns
    rw [g2] at hr
    rw [Nat.zero_add, Nat.zero_add]
    unfold xrt at hrt
    split at hrt
    next =>
      obtain ⟨h0, hh⟩ := xbif hrt
      cases hh
      rw [Nat.eq_of_beq_eq_true h0] at hr
      exact W.vret Bd.exec Bd.bytes hr (fun t ht hW => ⟨rfl, by rw [ht]; exact hRl', hS'.F ht⟩) hS'.2.2 hdec
    next x =>
      cases h0 : Nat.beq q.2.2.2.1 1 with
      | true =>
        rw [h0] at hrt
        cases hrt
        rw [Nat.eq_of_beq_eq_true h0] at hr
        exact W.iret (v := x) Bd.exec Bd.bytes hr (fun t ht hW => ⟨rfl, by rw [ht]; exact hRl', hS'.F ht⟩) hS'.2.2 hdec
      | false =>
        rw [h0] at hrt
        obtain ⟨h3, hh⟩ := xbif hrt
        cases hh
        simp only [Bool.and_eq_true] at h3
        rw [Nat.eq_of_beq_eq_true h3.1] at hr
        exact W.zret (v := x) Bd.exec Bd.bytes hr (xnar01 h3.2).2 (fun t ht hW => ⟨rfl, by rw [ht]; exact hRl', hS'.F ht⟩) hS'.2.2 hdec
    next x =>
      obtain ⟨h0, hh⟩ := xbif hrt
      cases hh
      rw [Nat.eq_of_beq_eq_true h0] at hr
      exact W.lret (v := x) Bd.exec Bd.bytes hr (fun t ht hW => ⟨rfl, by rw [ht]; exact hRl', hS'.F ht⟩) hS'.2.2 hdec
    next => cases hrt
section XC
variable {p : Program} {l : Launch} {e : Env} {R : Room} {s : State} {m : MethodId} {args : Array Value} {below : List Frame} {meth : Method} {c : Code} {H : Heap} {locs : List Loc} {cells slots : Nat} {Q : State → Prop}
variable {cc : ByteArray} {pc : Nat} {lsA : Array Slot} {B : Nat} {aR : Nat → Nat} {cI cZ cJ : ClassId} {D : va_G} {ro : List (List Int32)}
/-- behind a call -/
theorem xcall_W {mc ms : Nat} {st0 rest : List Value} {a : Array Value} {r : Option Value} {h' : xH} {free : Addr → Prop} (hr : va_Run p l e R s m args below meth c H locs cells slots mc ms (F0 m pc lsA st0) rest (xQc B aR cI cZ cJ D r h' a) free) (hf : ∀ q, free q → B ≤ q) (hS : va_S (xIn B) s.heap H locs)
    (kk : ∀ (H1 : Heap) (locs1 : List Loc), xRl B aR cI cZ cJ D h' H1 → va_S (xIn B) s.heap H1 locs1 → W p l e R s m args below meth c H1 locs1 (cells + mc) (slots + ms) Q (F0 m (pc + 3) lsA ((r.map (xv B aR)).toList ++ rest))) : W p l e R s m args below meth c H locs cells slots Q (F0 m pc lsA st0) := by
  intro T hT X
  obtain ⟨v, st₀, t, T', L, h0, X', hL, e1, e2, ⟨hv, hRl, hz, hk⟩, st⟩ := hr T hT X
  cases hv
  rw [h0] at hz hk
  rw [← e1] at hRl hz hk
  obtain ⟨t2, a1, b1⟩ := kk T'.heap (locs ++ L) hRl ⟨Nat.le_trans hS.1 hz, fun q h1 h2 => by rw [hk q (Nat.lt_of_lt_of_le h1 hS.1) h2]; exact hS.2.1 q h1 h2, fun q hq => by
      rcases List.mem_append.mp hq with h | h
      · exact hS.2.2 q h
      · exact hf _ (hL q h)⟩ T' rfl X'
  exact ⟨t2, st t2 a1, b1⟩
/-- a callee's start -/
theorem xpre {as : List Value} {h : xH} (hK : va_K D vwCl (xtys cI cZ cJ) s) (hro : xro B aR ro s) (hsB : B ≤ s.heap.size) (hNw : ∀ w ∈ xNw, va_Nw w s) (hR : xRl B aR cI cZ cJ D h H) (hS : va_S (xIn B) s.heap H locs) : ∀ U : State, U.heap = H → s.WarmedH U.vm → xPc B aR cI cZ cJ D ro as h ((as.map (xv B aR)).toArray) U := by
  intro U hU hW
  refine ⟨rfl, by rw [hU]; exact hR, va_K.moved hW.alike hK, xro_moved hW.alike hsB (fun q hz hq => ?_) hro, xNw_warm hW hNw⟩
  rw [hU]
  exact hS.2.1 q hz (Nat.not_le.mpr hq)
end XC
end
section
/-! every run of the pure machine is a walk -/
theorem xC_in {own idx y0 n0 pl nest : Nat} {y : xNt} (h : xtb xC own idx = some (y0, n0, pl, nest)) (hne : Nat.beq y0 9999 = false) (hy : xN[y0]? = some y) :
    (parseMethodDescriptor y.1.desc).map (fun d => d.parameters.length) = some n0 ∧ (nest = 0 → Cond.methodLink (xr own) idx y.1 ∈ xB) ∧ (nest ≠ 0 → ∃ u, Cond.methodLinkNest (xr own) idx y.1 u ∈ xNw) := by
  have h1 := xtb_ok xC_ok h
  unfold xCc at h1
  dsimp only at h1
  rw [hne, cond_false, hy] at h1
  dsimp only at h1
  simp only [Bool.and_eq_true, decide_eq_true_eq] at h1
  refine ⟨h1.1, fun z => ?_, fun z => ?_⟩
  · subst z
    exact xw_in h1.2
  · have h2 := h1.2
    split at h2
    next => exact absurd rfl z
    next =>
      split at h2
      next o i0 z0 u hg =>
        simp only [Bool.and_eq_true, decide_eq_true_eq] at h2
        obtain ⟨⟨rfl, rfl⟩, rfl⟩ := h2
        exact ⟨u, List.mem_filter.mpr ⟨xgt_in hg, rfl⟩⟩
      next => cases h2
theorem xC_obj {own idx y0 : Nat} {a : Nat × Nat × Nat} (h : xtb xC own idx = some (y0, a)) (hne : Nat.beq y0 9999 = true) : Cond.methodLink (xr own) idx objectInit ∈ xB := by
  have h1 := xtb_ok xC_ok h
  unfold xCc at h1
  dsimp only at h1
  rw [hne, cond_true] at h1
  exact xw_in h1
theorem xlt_ne {y0 : Nat} (h : y0 < xOw) : Nat.beq y0 9999 = false := by
  have h1 : xOw < 9999 := by decide
  cases hb : Nat.beq y0 9999 with
  | false => rfl
  | true => have := Nat.eq_of_beq_eq_true hb; omega
section XC
variable {p : Program} {l : Launch} {e : Env} {R : Room} {s : State} {m : MethodId} {args : Array Value} {below : List Frame} {meth : Method} {c : Code} {H : Heap} {locs : List Loc} {cells slots : Nat} {Q : State → Prop}
variable {cc : ByteArray} {pc : Nat} {lsA : Array Slot} {B : Nat} {aR : Nat → Nat} {cI cZ cJ : ClassId} {D : va_G} {ro : List (List Int32)}
set_option maxHeartbeats 4000000 in
theorem xca_W {q q' : xQ} {y : xNt} {i : Instr} {st as rest : List Value} {h h' : xH} {yk n d' : Nat} {r : Option Value} (F : xFx B aR cI cZ cJ D ro q y p s m args meth c) (ih : xSnd ro n) (hd : decode y.2.1 pc = .ok (i, 3)) (hca : xca q.1 i st h = some (yk, as, rest)) (hq' : xM[yk]? = some q')
    (hrest : xcs rest ≤ 8) (has : xcs as ≤ q'.2.1) (hev : ev ro n d' q' 0 (lv_args 0 as) [] h = some (r, h')) (hl : lsA.size = q.2.1) (hR : xRl B aR cI cZ cJ D h H) (hS : va_S (xIn B) s.heap H locs) (hRf : d' + 1 ≤ R.frames) (hRlo : 100 * (d' + 1) ≤ R.locals)
    (hcells : cells + (h'.length - h.length) ≤ R.cells) (hslots : slots + (xsl h' - xsl h) ≤ R.slots)
    (kk : ∀ (H1 : Heap) (locs1 : List Loc), xRl B aR cI cZ cJ D h' H1 → va_S (xIn B) s.heap H1 locs1 → W p l e R s m args below meth c H1 locs1 (cells + (h'.length - h.length)) (slots + (xsl h' - xsl h)) Q (F0 m (pc + 3) lsA ((r.toList ++ rest).map (xv B aR)))) :
    W p l e R s m args below meth c H locs cells slots Q (F0 m pc lsA (st.map (xv B aR))) := by
  obtain ⟨hx, hb, hml, hown, hts, hK, hini, hro, hsB, hNw, hdc⟩ := F
  have kk' : ∀ (H1 : Heap) (locs1 : List Loc), xRl B aR cI cZ cJ D h' H1 → va_S (xIn B) s.heap H1 locs1 → W p l e R s m args below meth c H1 locs1 (cells + (h'.length - h.length)) (slots + (xsl h' - xsl h)) Q (F0 m (pc + 3) lsA ((r.map (xv B aR)).toList ++ rest.map (xv B aR))) := by
    intro H1 locs1 a b
    have := kk H1 locs1 a b
    cases r <;> exact this
  have hW : 2 * (F0 m pc lsA (st.map (xv B aR))).monitorRoom + ((rest.map (xv B aR)).map fun v => v.category).sum ≤ 8 := lv_room (by rw [xcs_map]; exact hrest)
  unfold xca at hca
  split at hca
  next idx =>
    split at hca
    next y0 n0 pl nest hf =>
      split at hca
      next o w1 kind w2 as0 r0 rest0 hm htk =>
        split at hca
        next t fs hh =>
          obtain ⟨hz, hca⟩ := xbif hca
          cases hca
          simp only [Bool.and_eq_true] at hz
          obtain ⟨⟨⟨⟨z1, z2⟩, z3⟩, z4⟩, z5⟩ := hz
          cases hm.symm.trans hq'
          have hlt := Nat.blt_eq.mp z1
          obtain ⟨y', hy', F'⟩ := xM_facts hq' hlt
          have met := xmet ih F' hev has l B aR cI cZ cJ D
          obtain ⟨g1, g2, g3, g4, g5, g6, g7, g8, g9, g10, g11⟩ := id F'
          obtain ⟨c1, c2, -⟩ := xC_in hf (xlt_ne hlt) hy'
          obtain ⟨s1, s2⟩ := g9 (Nat.eq_of_beq_eq_true z2)
          obtain ⟨t1, t2⟩ := xtk_o htk
          obtain rfl := Nat.eq_of_beq_eq_true z4
          have htl : t < 13 := Nat.blt_eq.mp z5
          obtain ⟨⟨C, T, N⟩, hcl⟩ : ∃ qq, vwCl[t]? = some qq := ⟨vwCl[t]'(htl), List.getElem?_eq_getElem htl⟩
          have he := xRl_get hR hh
          rw [xe_o _ _ _ _ _ (xcl_lt hcl)] at he
          have hrc := va_recv hK hR.2 hcl he
          have hCr := (xcl_ok hcl).2.2.2.2.2.1
          dsimp only at hrc
          rw [hCr] at hrc
          subst t2
          rw [g1] at s2
          refine xcall_W (va_runV (As := as0.map (xv B aR)) (rest := rest.map (xv B aR)) (C := xr t) ⟨hx, hb, hml, hown, hts⟩ met ⟨callB_of n0 hts (xgood_in F') rfl rfl rfl (hts _ g4) (hts _ (c2 (Nat.eq_of_beq_eq_true z3))) ⟨g7.1, g7.2, c1⟩ ⟨hRf, by show 8 + (w1 + 11) + 100 * d' ≤ _; have g5 : w1 ≤ 60 := g5; omega⟩, hts _ s1, hts _ s2⟩ ⟨xPc_blind, hrc, xpre (as := .ref r0 :: as0) hK hro hsB hNw hR hS⟩ rfl (by rw [List.length_map]; exact t1) hl (by show List.map (xv B aR) (as0.reverse ++ .ref r0 :: rest) = _; rw [List.map_append, List.map_reverse]; rfl) hW hd ⟨hcells, hslots⟩) (fun _ h => h) hS kk'
        next => cases hca
      next => cases hca
    next => cases hca
  next idx =>
    split at hca
    next y0 n0 pl nest hf =>
      split at hca
      next o w1 kind w2 as0 rest0 hm htk =>
        obtain ⟨hz, hca⟩ := xbif hca
        cases hca
        simp only [Bool.and_eq_true] at hz
        obtain ⟨⟨z1, z2⟩, z3⟩ := hz
        cases hm.symm.trans hq'
        have hlt := Nat.blt_eq.mp z1
        obtain ⟨y', hy', F'⟩ := xM_facts hq' hlt
        have met := xmet ih F' hev has l B aR cI cZ cJ D
        obtain ⟨g1, g2, g3, g4, g5, g6, g7, g8, g9, g10, g11⟩ := id F'
        obtain ⟨c1, c2, -⟩ := xC_in hf (xlt_ne hlt) hy'
        have s1 := g8 (Nat.eq_of_beq_eq_true z2)
        obtain ⟨t1, t2⟩ := xtk_o htk
        subst t2
        exact xcall_W (va_runS (As := as.map (xv B aR)) (rest := rest.map (xv B aR)) ⟨hx, hb, hml, hown, hts⟩ met ⟨callB_of n0 hts (xgood_in F') rfl rfl rfl (hts _ g4) (hts _ (c2 (Nat.eq_of_beq_eq_true z3))) ⟨g7.1, g7.2, c1⟩ ⟨hRf, by show 8 + (w1 + 11) + 100 * d' ≤ _; have g5 : w1 ≤ 60 := g5; omega⟩, hts _ s1⟩ ⟨xPc_blind, xpre (as := as) hK hro hsB hNw hR hS⟩ rfl (by rw [List.length_map]; exact t1) hl (by show List.map (xv B aR) (as.reverse ++ rest) = _; rw [List.map_append, List.map_reverse]) hW hd ⟨hcells, hslots⟩) (fun _ h => h) hS kk'
      next => cases hca
    next => cases hca
  next idx =>
    split at hca
    next y0 n0 pl nest hf =>
      split at hca
      next o w1 kind w2 as0 r0 rest0 hm htk =>
        obtain ⟨hz, hca⟩ := xbif hca
        cases hca
        simp only [Bool.and_eq_true] at hz
        obtain ⟨z1, z2⟩ := hz
        cases hm.symm.trans hq'
        have hlt := Nat.blt_eq.mp z1
        obtain ⟨y', hy', F'⟩ := xM_facts hq' hlt
        have met := xmet ih F' hev has l B aR cI cZ cJ D
        obtain ⟨yn, yb, yr, y4⟩ := y'
        obtain ⟨g1, g2, g3, g4, g5, g6, g7, g8, g9, g10, g11⟩ := id F'
        obtain ⟨c1, c2, c3⟩ := xC_in hf (xlt_ne hlt) hy'
        obtain ⟨s1, s2, s3⟩ := g10 (Nat.eq_of_beq_eq_true z2)
        obtain rfl : yr = none := by
          have g2 : yr = xrc w2.1 := g2
          have s3 : w2.1 = 0 := s3
          rw [g2, s3]; rfl
        obtain ⟨t1, t2⟩ := xtk_o htk
        subst t2
        by_cases hn : nest = 0
        · exact xcall_W (va_runI (As := as0.map (xv B aR)) (rest := rest.map (xv B aR)) ⟨hx, hb, hml, hown, hts⟩ met ⟨callB_of n0 hts (xgood_in F') rfl rfl rfl (hts _ g4) (hts _ (c2 hn)) ⟨g7.1, g7.2, c1⟩ ⟨hRf, by show 8 + (w1 + 11) + 100 * d' ≤ _; have g5 : w1 ≤ 60 := g5; omega⟩, s2, hts _ s1⟩ ⟨xPc_blind, xpre (as := .ref r0 :: as0) hK hro hsB hNw hR hS⟩ rfl (by rw [List.length_map]; exact t1) hl (by show List.map (xv B aR) (as0.reverse ++ .ref r0 :: rest) = _; rw [List.map_append, List.map_reverse]; rfl) hW hd ⟨hcells, hslots⟩) (fun _ h => h) hS kk'
        · obtain ⟨u, hu⟩ := c3 hn
          exact xcall_W (va_runIN (As := as0.map (xv B aR)) (rest := rest.map (xv B aR)) ⟨hx, hb, hml, hown, hts⟩ met ⟨va_cnB n0 hts (xgood_in F') rfl rfl rfl (hNw _ hu) (hts _ g4) ⟨g7.1, g7.2, c1⟩ ⟨hRf, by show 8 + (w1 + 11) + 100 * d' ≤ _; have g5 : w1 ≤ 60 := g5; omega⟩, s2, hts _ s1⟩ ⟨xPc_blind, xpre (as := .ref r0 :: as0) hK hro hsB hNw hR hS⟩ rfl (by rw [List.length_map]; exact t1) hl (by show List.map (xv B aR) (as0.reverse ++ .ref r0 :: rest) = _; rw [List.map_append, List.map_reverse]; rfl) hW hd ⟨hcells, hslots⟩) (fun _ h => h) hS kk'
      next => cases hca
    next => cases hca
  next => cases hca
end XC
end
section
/-! the theorem of the pure machine -/
theorem xrt_1 {ret : Nat} {i : Instr} {st : List Value} {r : Option Value} (h : xrt ret i st = some r) : xil i = 1 ∧ (∀ a b d o, i ≠ .tableswitch a b d o) ∧ ∀ a b, i ≠ .lookupswitch a b := by
  unfold xrt at h
  split at h
  next => exact ⟨rfl, fun _ _ _ _ z => (by cases z), fun _ _ z => (by cases z)⟩
  next => exact ⟨rfl, fun _ _ _ _ z => (by cases z), fun _ _ z => (by cases z)⟩
  next => exact ⟨rfl, fun _ _ _ _ z => (by cases z), fun _ _ z => (by cases z)⟩
  next => cases h
theorem xca_3 {own : Nat} {i : Instr} {st : List Value} {h : xH} {r : Nat × List Value × List Value} (e : xca own i st h = some r) : xil i = 3 ∧ (∀ a b d o, i ≠ .tableswitch a b d o) ∧ ∀ a b, i ≠ .lookupswitch a b := by
  unfold xca at e
  split at e
  next => exact ⟨rfl, fun _ _ _ _ z => (by cases z), fun _ _ z => (by cases z)⟩
  next => exact ⟨rfl, fun _ _ _ _ z => (by cases z), fun _ _ z => (by cases z)⟩
  next => exact ⟨rfl, fun _ _ _ _ z => (by cases z), fun _ _ z => (by cases z)⟩
  next => cases e
theorem xMm_in : Cond.code Lib.Math.max.name Lib.Math.max.code 2 (some .int) ∈ xB ∧ Cond.code Lib.Math.min.name Lib.Math.min.code 2 (some .int) ∈ xB ∧ Cond.static Lib.Math.max.name ∈ xB ∧ Cond.static Lib.Math.min.name ∈ xB ∧ Cond.initialized "java/lang/Math" ∈ xB ∧
    (∃ y, xN[xMx]? = some y ∧ y.1 = Lib.Math.max.name) ∧ ∃ y, xN[xMn]? = some y ∧ y.1 = Lib.Math.min.name := by
  have h := xMm_ok
  have h1 : xMx + 1 < xM.length := by decide +kernel
  have h2 : xMn + 1 < xM.length := by decide +kernel
  have k1 : (xM[xMx]?).map (fun q => (q.2.1, xrc q.2.2.2.1)) = some (2, some .int) := by decide +kernel
  have k2 : (xM[xMn]?).map (fun q => (q.2.1, xrc q.2.2.2.1)) = some (2, some .int) := by decide +kernel
  have k3 : (xN[xMx]?).map (fun y => y.2.2.1) = some (some .int) := by decide +kernel
  have k4 : (xN[xMn]?).map (fun y => y.2.2.1) = some (some .int) := by decide +kernel
  obtain ⟨q1, e1, f1⟩ := xmap k1
  obtain ⟨q2, e2, f2⟩ := xmap k2
  split at h
  next a b ha hb =>
    simp only [Bool.and_eq_true, decide_eq_true_eq] at h
    obtain ⟨⟨⟨⟨⟨⟨a1, b1⟩, a2⟩, b2⟩, i1⟩, s1⟩, s2⟩ := h
    have m1 := xml_get xM xN xm_all _ _ _ e1 ha h1
    have m2 := xml_get xM xN xm_all _ _ _ e2 hb h2
    rw [ha] at k3
    rw [hb] at k4
    have k3 : a.2.2.1 = some .int := Option.some.inj k3
    have k4 : b.2.2.1 = some .int := Option.some.inj k4
    have f1 : q1.2.1 = 2 := congrArg Prod.fst f1
    have f2 : q2.2.1 = 2 := congrArg Prod.fst f2
    rw [a1, a2, f1, k3] at m1
    rw [b1, b2, f2, k4] at m2
    exact ⟨List.mem_filter.mpr ⟨xgt_in m1, rfl⟩, List.mem_filter.mpr ⟨xgt_in m2, rfl⟩, xw_in s1, xw_in s2, xw_in i1, ⟨a, ha, a1⟩, b, hb, b1⟩
  next => cases h
section XC
variable {p : Program} {l : Launch} {e : Env} {R : Room} {s : State} {m : MethodId} {args : Array Value} {below : List Frame} {meth : Method} {c : Code} {H : Heap} {locs : List Loc} {cells slots : Nat} {Q : State → Prop}
variable {cc : ByteArray} {pc : Nat} {lsA : Array Slot} {B : Nat} {aR : Nat → Nat} {cI cZ cJ : ClassId} {D : va_G} {ro : List (List Int32)}
theorem xob_W {own n : Nat} {i : Instr} {st rest : List Value} (hx : p.tables.exec = Jvm.exec) (hb : c.code = cc) (hml : c.maxLocals = lsA.size) (hown : s.vm.findClass (xr own) = some m.cls) (hts : ∀ w ∈ xB, w.before args s = true)
    (hd : decode cc pc = .ok (i, n)) (hnn : n = xil i ∨ (∃ a b d o, i = .tableswitch a b d o) ∨ ∃ a b, i = .lookupswitch a b) (h1 : xob own i st = some rest) (hrest : xcs rest ≤ 8) (hRf : 1 ≤ R.frames) (hRlo : 20 ≤ R.locals)
    (kk : W p l e R s m args below meth c H locs cells slots Q (F0 m (pc + 3) lsA (rest.map (xv B aR)))) : W p l e R s m args below meth c H locs cells slots Q (F0 m pc lsA (st.map (xv B aR))) := by
  have hwA := xA_ok
  simp only [Bool.and_eq_true] at hwA
  unfold xob at h1
  split at h1
  next idx r0 rest0 =>
    split at h1
    next y a hf =>
      obtain ⟨hz, h1⟩ := xbif h1
      cases h1
      have e3 : n = 3 := xnsw hnn (fun _ _ _ _ z => by cases z) (fun _ _ z => by cases z)
      subst e3
      have hW : 2 * (F0 m pc lsA ((Value.ref r0 :: rest).map (xv B aR))).monitorRoom + ((rest.map (xv B aR)).map fun v => v.category).sum ≤ 8 := lv_room (by rw [xcs_map]; exact hrest)
      exact W.objInit hx hb hown (hts _ (xC_obj hf hz)) (hts _ (xw_in hwA.1.2)) (hts _ (xw_in hwA.2)) rfl hml.symm rfl hd hRf (by omega) kk
    next => cases h1
  next => cases h1
theorem xmm_W {own n : Nat} {i : Instr} {st rest : List Value} (hx : p.tables.exec = Jvm.exec) (hb : c.code = cc) (hml : c.maxLocals = lsA.size) (hown : s.vm.findClass (xr own) = some m.cls) (hts : ∀ w ∈ xB, w.before args s = true)
    (hd : decode cc pc = .ok (i, n)) (hnn : n = xil i ∨ (∃ a b d o, i = .tableswitch a b d o) ∨ ∃ a b, i = .lookupswitch a b) (h1 : xmm own i st = some rest) (hrest : xcs rest ≤ 8) (hRf : 1 ≤ R.frames) (hRlo : 30 ≤ R.locals) (hc : cells ≤ R.cells) (hs : slots ≤ R.slots)
    (kk : W p l e R s m args below meth c H locs cells slots Q (F0 m (pc + 3) lsA (rest.map (xv B aR)))) : W p l e R s m args below meth c H locs cells slots Q (F0 m pc lsA (st.map (xv B aR))) := by
  obtain ⟨w1, w2, w3, w4, w5, ⟨y1, hy1, hn1⟩, y2, hy2, hn2⟩ := xMm_in
  have hle : ∀ (v : Value) (t : List Value), xcs (v :: t) ≤ 8 → ((t.map (xv B aR)).map fun v => v.category).sum ≤ 8 := by
    intro v t ht
    rw [xcs_map]
    unfold xcs at ht ⊢
    rw [List.map_cons, List.sum_cons] at ht
    omega
  unfold xmm at h1
  split at h1
  next idx y x rest0 =>
    split at h1
    next mm n9 p9 nest hf =>
      obtain ⟨h0, h1⟩ := xbif h1
      have h0 := Nat.eq_of_beq_eq_true h0
      have e3 : n = 3 := xnsw hnn (fun _ _ _ _ z => by cases z) (fun _ _ z => by cases z)
      subst e3
      cases hz : Nat.beq mm xMx with
      | true =>
        rw [hz] at h1
        cases h1
        obtain rfl := Nat.eq_of_beq_eq_true hz
        obtain ⟨c1, c2, c3⟩ := xC_in hf (by decide) hy1
        rw [hn1] at c2 c3
        exact va_mmax hx hb hml hown (hts _ (c2 h0)) (hts _ w3) (hts _ w5) (hts _ w1) hRf (by have := hle _ _ hrest; omega) hc hs hd kk
      | false =>
        rw [hz] at h1
        obtain ⟨hz2, h1⟩ := xbif h1
        cases h1
        obtain rfl := Nat.eq_of_beq_eq_true hz2
        obtain ⟨c1, c2, c3⟩ := xC_in hf (by decide) hy2
        rw [hn2] at c2 c3
        exact va_mmin hx hb hml hown (hts _ (c2 h0)) (hts _ w4) (hts _ w5) (hts _ w2) hRf (by have := hle _ _ hrest; omega) hc hs hd kk
    next => cases h1
  next => cases h1
theorem xcpy_f (vs ws : List Value) (sp dp n : Nat) (hd : dp + n ≤ ws.length) : va_cpy (fun j => xal (vs.getD j .null)) (fun j => xal (ws.getD j .null)) sp dp n = fun j => xal ((xcpy vs ws sp dp n).getD j .null) := by
  funext j
  unfold va_cpy xcpy
  by_cases hj : j < ws.length
  · have e : ((List.range ws.length).map fun k => if dp ≤ k ∧ k < dp + n then vs.getD (sp + (k - dp)) .null else ws.getD k .null).getD j .null = if dp ≤ j ∧ j < dp + n then vs.getD (sp + (j - dp)) .null else ws.getD j .null := by
      rw [List.getD_eq_getElem?_getD, List.getElem?_map, List.getElem?_range hj]
      rfl
    rw [e]
    split <;> rfl
  · rw [if_neg (by omega)]
    have e1 : ws.getD j .null = .null := by rw [List.getD_eq_getElem?_getD, List.getElem?_eq_none (by omega)]; rfl
    dsimp only
    rw [e1, List.getD_eq_getElem?_getD, List.getElem?_eq_none (by simp; omega)]
    rfl
theorem xay_3 {own : Nat} {i : Instr} {st : List Value} {h : xH} {r : List Value × xH} (e : xay own i st h = some r) : xil i = 3 ∧ (∀ a b d o, i ≠ .tableswitch a b d o) ∧ ∀ a b, i ≠ .lookupswitch a b := by
  unfold xay at e
  split at e
  next => exact ⟨rfl, fun _ _ _ _ z => (by cases z), fun _ _ z => (by cases z)⟩
  next => cases e
set_option maxRecDepth 100000 in
theorem xay_W {own : Nat} {i : Instr} {st st' : List Value} {h h' : xH} (hx : p.tables.exec = Jvm.exec) (hb : c.code = cc) (hml : c.maxLocals = lsA.size) (hown : s.vm.findClass (xr own) = some m.cls) (hts : ∀ w ∈ xB, w.before args s = true) (hK : va_K D vwCl (xtys cI cZ cJ) s)
    (hR : xRl B aR cI cZ cJ D h H) (hS : va_S (fun q : Nat => B ≤ q) s.heap H locs) (hd : decode cc pc = .ok (i, 3)) (h1 : xay own i st h = some (st', h')) (hrest : xcs st' ≤ 8) (hRf : 1 ≤ R.frames) (hRlo : 100 ≤ R.locals)
    (kk : ∀ (H' : Heap) (locs' : List Loc), xRl B aR cI cZ cJ D h' H' → va_S (fun q : Nat => B ≤ q) s.heap H' locs' → W p l e R s m args below meth c H' locs' cells slots Q (F0 m (pc + 3) lsA (st'.map (xv B aR)))) : W p l e R s m args below meth c H locs cells slots Q (F0 m pc lsA (st.map (xv B aR))) := by
  have hy := xY_ok
  simp only [Bool.and_eq_true] at hy
  have hDw : va_D (fun q : Nat => B ≤ q) (xwd (xe B aR cI cZ cJ) B h) := xwd_D _ _ _
  have hnw : nativeFrameWords "java/lang/System" "arraycopy" 5 + 11 ≤ 60 := by decide +kernel
  unfold xay at h1
  split at h1
  next idx n dp rd sp rs rest0 =>
    split at h1
    next pl t0 vs t1 ws hf hs hdd =>
      obtain ⟨hz, h2⟩ := xbif h1
      clear h1
      simp only [Bool.and_eq_true] at hz
      obtain ⟨⟨⟨z1, z2⟩, z3⟩, z4⟩ := hz
      obtain rfl := Nat.eq_of_beq_eq_true z1
      obtain rfl := Nat.eq_of_beq_eq_true z2
      by_cases hneg : sp < 0 ∨ dp < 0 ∨ n < 0
      · rw [if_pos hneg] at h2
        cases h2
      · rw [if_neg hneg] at h2
        cases h2
        have hrs : ((st'.map (xv B aR)).map fun v => v.category).sum ≤ 8 := by rw [xcs_map]; exact hrest
        refine xw_copyl hx hb hml hown (hts _ (xw_in (xtb_ok hy.1.1.1 hf))) (hts _ (xw_in hy.1.1.2)) (hts _ (xw_in hy.1.2)) (hts _ (xw_in hy.2)) hK hR.2 hDw hS rs rd 2 (xRl_get hR hs) (xRl_get hR hdd) rfl (fun q => hneg (Or.inl q)) (fun q => hneg (Or.inr (Or.inl q))) (fun q => hneg (Or.inr (Or.inr q))) (Nat.ble_eq.mp z3) (Nat.ble_eq.mp z4) hRf (by omega) hd (fun H1 locs1 hz1 hP hS1 => ?_)
        exact kk H1 locs1 (xRl_set hR hz1 (by rw [xe_l, xcpy_f _ _ _ _ _ (Nat.ble_eq.mp z4), xcpy_len]) hP) hS1
    next => cases h1
  next => cases h1
end XC
set_option maxHeartbeats 4000000 in
theorem ev_W (ro : List (List Int32)) : ∀ n, xSnd ro n := by
  intro n
  induction n with
  | zero => intro d q pc ls st h r h2 hev; simp [ev] at hev
  | succ n ih =>
    intro d q pc ls st h r h2 hev B aR cI cZ cJ D y p l e R s m args below meth c H locs cells slots Q lsA F hl hR hS hRf hRlo hcl hsl hend
    have F0' := F
    obtain ⟨hx, hb, hml, hown, hts, hK, hini, hro, hsB, hNw, hdc⟩ := F
    have mm := ev_mono _ hev
    rw [ev] at hev
    split at hev
    next => cases hev
    next i hi =>
      obtain ⟨nn, hd, hnn⟩ := xcg_ok hdc hi
      split at hev
      next ls' st' h1 =>
        have e3 : nn = xil i := xnsw hnn (fun a b d o z => by subst z; simp [xs1] at h1) (fun a b z => by subst z; simp [xs1] at h1)
        subst e3
        exact xs1_W hx hb hown hts hd h1 hl (fun lsB hlB => ih d q _ ls' st' h r h2 hev B aR cI cZ cJ D y p l e R s m args below meth c H locs cells slots Q lsB F0' hlB hR hS hRf hRlo hcl hsl hend)
      next =>
        split at hev
        next pc' st' h1 => exact xbr_W hx hb hd hnn h1 (ih d q pc' ls st' h r h2 hev B aR cI cZ cJ D y p l e R s m args below meth c H locs cells slots Q lsA F0' hl hR hS hRf hRlo hcl hsl hend)
        next =>
          split at hev
          next st' h' h1 =>
            have e3 : nn = xil i := xnsw hnn (fun a b d o z => by subst z; simp [xho] at h1) (fun a b z => by subst z; simp [xho] at h1)
            subst e3
            have m1 := xho_mono h1
            have m2 := ev_mono _ hev
            have a1 : cells + (h'.length - h.length) + (h2.length - h'.length) = cells + (h2.length - h.length) := by omega
            have a2 : slots + (xsl h' - xsl h) + (xsl h2 - xsl h') = slots + (xsl h2 - xsl h) := by omega
            exact xho_W hx hb hown hts hK hini hro hsB hR hS hd h1 (by omega) (by omega) (fun H' locs' hR' hS' => ih d q _ ls st' h' r h2 hev B aR cI cZ cJ D y p l e R s m args below meth c H' locs' _ _ Q lsA F0' hl hR' hS' hRf hRlo (by omega) (by omega) (by rw [a1, a2]; exact hend))
          next =>
            split at hev
            next r' h1 =>
              cases hev
              obtain ⟨o1, o2, o3⟩ := xrt_1 h1
              have e3 : nn = 1 := (xnsw hnn o2 o3).trans o1
              subst e3
              have := hend pc lsA H locs st i hd h1 hR hS
              rw [Nat.sub_self, Nat.sub_self, Nat.add_zero, Nat.add_zero] at this
              exact this
            next =>
              split at hev
              next => cases hev
              next d' =>
                split at hev
                next rest h1 =>
                  obtain ⟨hrest, hev⟩ := xbif hev
                  exact xob_W hx hb (hml.trans hl.1.symm) hown hts hd hnn h1 (Nat.ble_eq.mp hrest) (by omega) (by omega) (ih (d' + 1) q _ ls rest h r h2 hev B aR cI cZ cJ D y p l e R s m args below meth c H locs cells slots Q lsA F0' hl hR hS hRf hRlo hcl hsl hend)
                next =>
                  split at hev
                  next rest h1 =>
                    obtain ⟨hrest, hev⟩ := xbif hev
                    exact xmm_W hx hb (hml.trans hl.1.symm) hown hts hd hnn h1 (Nat.ble_eq.mp hrest) (by omega) (by omega) (by omega) (by omega) (ih (d' + 1) q _ ls rest h r h2 hev B aR cI cZ cJ D y p l e R s m args below meth c H locs cells slots Q lsA F0' hl hR hS hRf hRlo hcl hsl hend)
                  next =>
                   split at hev
                   next rest h' h1 =>
                     obtain ⟨hrest, hev⟩ := xbif hev
                     obtain ⟨o1, o2, o3⟩ := xay_3 h1
                     have e3 : nn = 3 := (xnsw hnn o2 o3).trans o1
                     subst e3
                     have g1 := xay_mono h1
                     exact xay_W hx hb (hml.trans hl.1.symm) hown hts hK hR hS hd h1 (Nat.ble_eq.mp hrest) (by omega) (by omega) (fun H' locs' hR' hS' => ih (d' + 1) q _ ls rest h' r h2 hev B aR cI cZ cJ D y p l e R s m args below meth c H' locs' cells slots Q lsA F0' hl hR' hS' hRf hRlo (by rw [g1.1]; exact hcl) (by rw [g1.2]; exact hsl) (by rw [g1.1, g1.2]; exact hend))
                   next =>
                    split at hev
                    next => cases hev
                    next yk as rest hca =>
                      split at hev
                      next => cases hev
                      next q' hq' =>
                        obtain ⟨hz, hev⟩ := xbif hev
                        simp only [Bool.and_eq_true] at hz
                        split at hev
                        next => cases hev
                        next r1 h' he1 =>
                          obtain ⟨o1, o2, o3⟩ := xca_3 hca
                          have e3 : nn = 3 := (xnsw hnn o2 o3).trans o1
                          subst e3
                          have m1 := ev_mono _ he1
                          have m2 := ev_mono _ hev
                          have a1 : cells + (h'.length - h.length) + (h2.length - h'.length) = cells + (h2.length - h.length) := by omega
                          have a2 : slots + (xsl h' - xsl h) + (xsl h2 - xsl h') = slots + (xsl h2 - xsl h) := by omega
                          exact xca_W F0' ih hd hca hq' (Nat.ble_eq.mp hz.1) (Nat.ble_eq.mp hz.2) he1 hl.1 hR hS (by omega) (by omega) (by omega) (by omega) (fun H' locs' hR' hS' => ih (d' + 1) q _ ls _ h' r h2 hev B aR cI cZ cJ D y p l e R s m args below meth c H' locs' _ _ Q lsA F0' hl hR' hS' hRf hRlo (by omega) (by omega) (by rw [a1, a2]; exact hend))
end
section
/-! runs of the pure machine: more fuel, other rows, single steps -/
theorem ev_more {ro : List (List Int32)} : ∀ (n : Nat) {d : Nat} {q : xQ} {pc : Nat} {ls : xL} {st : List Value} {h : xH} {x : Option Value × xH}, ev ro n d q pc ls st h = some x → ev ro (n + 1) d q pc ls st h = some x := by
  intro n
  induction n with
  | zero => intro d q pc ls st h x e; simp [ev] at e
  | succ n ih =>
    intro d q pc ls st h x e
    rw [ev] at e
    rw [ev]
    split at e
    next => cases e
    next i hi =>
      try rw [hi]
      try dsimp only
      split at e
      next ls' st' h1 => (try rw [h1]); exact ih e
      next h1 =>
        try rw [h1]
        try dsimp only
        split at e
        next pc' st' h2 => (try rw [h2]); exact ih e
        next h2 =>
          try rw [h2]
          try dsimp only
          split at e
          next st' h' h3 => (try rw [h3]); exact ih e
          next h3 =>
            try rw [h3]
            try dsimp only
            split at e
            next r h4 => (try rw [h4]); exact e
            next h4 =>
              try rw [h4]
              try dsimp only
              split at e
              next => cases e
              next d' =>
                split at e
                next rest h5 =>
                  obtain ⟨hz, e⟩ := xbif e
                  try rw [h5]
                  try dsimp only
                  rw [hz, cond_true]
                  exact ih e
                next h5 =>
                  try rw [h5]
                  try dsimp only
                  split at e
                  next rest h6 =>
                    obtain ⟨hz, e⟩ := xbif e
                    try rw [h6]
                    try dsimp only
                    rw [hz, cond_true]
                    exact ih e
                  next h6 =>
                   try rw [h6]
                   try dsimp only
                   split at e
                   next rest h' h7 =>
                     obtain ⟨hz, e⟩ := xbif e
                     try rw [h7]
                     try dsimp only
                     rw [hz, cond_true]
                     exact ih e
                   next h7 =>
                    try rw [h7]
                    try dsimp only
                    split at e
                    next => cases e
                    next yk as rest hca =>
                      try rw [hca]
                      try dsimp only
                      split at e
                      next => cases e
                      next q' hq' =>
                        obtain ⟨hz, e⟩ := xbif e
                        try rw [hq']
                        try dsimp only
                        rw [hz, cond_true]
                        split at e
                        next => cases e
                        next r1 h' he1 =>
                          rw [ih he1]
                          exact ih e
theorem ev_mores {ro : List (List Int32)} {n : Nat} (k : Nat) {d : Nat} {q : xQ} {pc : Nat} {ls : xL} {st : List Value} {h : xH} {x : Option Value × xH} (e : ev ro n d q pc ls st h = some x) : ev ro (n + k) d q pc ls st h = some x := by
  induction k with
  | zero => exact e
  | succ k ih => exact ev_more _ ih
theorem xCY_ok : xall (fun own idx _ => (xtb xY own idx).isNone) 0 xC = true := by decide +kernel
theorem xay_none {own idx : Nat} {a : Nat × Nat × Nat × Nat} (h : xtb xC own idx = some a) (st : List Value) (hp : xH) : xay own (.invokestatic idx) st hp = none := by
  have h1 : (xtb xY own idx).isNone = true := xtb_ok xCY_ok h
  have h2 := Option.isNone_iff_eq_none.mp h1
  unfold xay
  split
  next idx' n dp rd sp rs rest heq =>
    cases heq
    rw [h2]
  next => rfl
theorem ev_s {ro : List (List Int32)} {n d : Nat} {q : xQ} {pc : Nat} {ls ls' : xL} {st st' : List Value} {h : xH} {i : Instr} (hi : xcg q.2.2.2.2 pc = some i) (h1 : xs1 q.1 q.2.1 i ls st = some (ls', st')) : ev ro (n + 1) d q pc ls st h = ev ro n d q (pc + xil i) ls' st' h := by
  rw [ev, hi]; dsimp only; rw [h1]
theorem ev_b {ro : List (List Int32)} {n d : Nat} {q : xQ} {pc pc' : Nat} {ls : xL} {st st' : List Value} {h : xH} {i : Instr} (hi : xcg q.2.2.2.2 pc = some i) (h0 : xs1 q.1 q.2.1 i ls st = none) (h1 : xbr i pc st = some (pc', st')) : ev ro (n + 1) d q pc ls st h = ev ro n d q pc' ls st' h := by
  rw [ev, hi]; dsimp only; rw [h0]; dsimp only; rw [h1]
theorem ev_h {ro : List (List Int32)} {n d : Nat} {q : xQ} {pc : Nat} {ls : xL} {st st' : List Value} {h h' : xH} {i : Instr} (hi : xcg q.2.2.2.2 pc = some i) (h0 : xs1 q.1 q.2.1 i ls st = none) (h1 : xbr i pc st = none) (h2 : xho ro q.1 q.2.2.1 i st h = some (st', h')) : ev ro (n + 1) d q pc ls st h = ev ro n d q (pc + xil i) ls st' h' := by
  rw [ev, hi]; dsimp only; rw [h0]; dsimp only; rw [h1]; dsimp only; rw [h2]
theorem ev_r {ro : List (List Int32)} {n d : Nat} {q : xQ} {pc : Nat} {ls : xL} {st : List Value} {h : xH} {i : Instr} {r : Option Value} (hi : xcg q.2.2.2.2 pc = some i) (h0 : xs1 q.1 q.2.1 i ls st = none) (h1 : xbr i pc st = none) (h2 : xho ro q.1 q.2.2.1 i st h = none) (h3 : xrt q.2.2.2.1 i st = some r) : ev ro (n + 1) d q pc ls st h = some (r, h) := by
  rw [ev, hi]; dsimp only; rw [h0]; dsimp only; rw [h1]; dsimp only; rw [h2]; dsimp only; rw [h3]
theorem ev_c {ro : List (List Int32)} {n d : Nat} {q q' : xQ} {pc y : Nat} {ls : xL} {st as rest : List Value} {h h' : xH} {i : Instr} {r : Option Value} (hi : xcg q.2.2.2.2 pc = some i) (h0 : xs1 q.1 q.2.1 i ls st = none) (h1 : xbr i pc st = none) (h2 : xho ro q.1 q.2.2.1 i st h = none) (h3 : xrt q.2.2.2.1 i st = none) (h4 : xob q.1 i st = none) (h5 : xmm q.1 i st = none)
    (h5b : xay q.1 i st h = none) (h6 : xca q.1 i st h = some (y, as, rest)) (h7 : xM[y]? = some q') (h8 : (Nat.ble (xcs rest) 8 && Nat.ble (xcs as) q'.2.1) = true) (h9 : ev ro n d q' 0 (lv_args 0 as) [] h = some (r, h')) : ev ro (n + 1) (d + 1) q pc ls st h = ev ro n (d + 1) q (pc + 3) ls (r.toList ++ rest) h' := by
  rw [ev, hi]; dsimp only; rw [h0]; dsimp only; rw [h1]; dsimp only; rw [h2]; dsimp only; rw [h3]; dsimp only; rw [h4]; dsimp only; rw [h5]; dsimp only; rw [h5b]; dsimp only; rw [h6]; dsimp only; rw [h7]; dsimp only; rw [h8, cond_true, h9]
theorem ev_o {ro : List (List Int32)} {n d : Nat} {q : xQ} {pc : Nat} {ls : xL} {st rest : List Value} {h : xH} {i : Instr} (hi : xcg q.2.2.2.2 pc = some i) (h0 : xs1 q.1 q.2.1 i ls st = none) (h1 : xbr i pc st = none) (h2 : xho ro q.1 q.2.2.1 i st h = none) (h3 : xrt q.2.2.2.1 i st = none) (h4 : xob q.1 i st = none) (h5 : xmm q.1 i st = some rest) (h8 : Nat.ble (xcs rest) 8 = true) : ev ro (n + 1) (d + 1) q pc ls st h = ev ro n (d + 1) q (pc + 3) ls rest h := by
  rw [ev, hi]; dsimp only; rw [h0]; dsimp only; rw [h1]; dsimp only; rw [h2]; dsimp only; rw [h3]; dsimp only; rw [h4]; dsimp only; rw [h5]; dsimp only; rw [h8, cond_true]
theorem ev_y {ro : List (List Int32)} {n d : Nat} {q : xQ} {pc : Nat} {ls : xL} {st rest : List Value} {h h' : xH} {i : Instr} (hi : xcg q.2.2.2.2 pc = some i) (h0 : xs1 q.1 q.2.1 i ls st = none) (h1 : xbr i pc st = none) (h2 : xho ro q.1 q.2.2.1 i st h = none) (h3 : xrt q.2.2.2.1 i st = none) (h4 : xob q.1 i st = none) (h5 : xmm q.1 i st = none) (h6 : xay q.1 i st h = some (rest, h')) (h8 : Nat.ble (xcs rest) 8 = true) : ev ro (n + 1) (d + 1) q pc ls st h = ev ro n (d + 1) q (pc + 3) ls rest h' := by
  rw [ev, hi]; dsimp only; rw [h0]; dsimp only; rw [h1]; dsimp only; rw [h2]; dsimp only; rw [h3]; dsimp only; rw [h4]; dsimp only; rw [h5]; dsimp only; rw [h6]; dsimp only; rw [h8, cond_true]
theorem xho_ro {ro : List (List Int32)} {own kind : Nat} {i : Instr} {st : List Value} {h : xH} : (∀ x, xho [] own kind i st h = some x → xho ro own kind i st h = some x) ∧ (∀ x, xho [] own kind i st h = none → xho ro own kind i st h = some x → (∀ ret, xrt ret i st = none) ∧ xob own i st = none ∧ xmm own i st = none ∧ xay own i st h = none ∧ xca own i st h = none) := by
  refine ⟨fun x e => ?_, fun x e1 e2 => ?_⟩
  · unfold xho at e ⊢
    split at e <;> first | exact e | (simp at e; done)
  · unfold xho at e2
    split at e2 <;> first | exact ⟨fun _ => rfl, rfl, rfl, rfl, rfl⟩ | (cases e2; done)
theorem ev_ro {ro : List (List Int32)} : ∀ (n : Nat) {d : Nat} {q : xQ} {pc : Nat} {ls : xL} {st : List Value} {h : xH} {x : Option Value × xH}, ev [] n d q pc ls st h = some x → ev ro n d q pc ls st h = some x := by
  intro n
  induction n with
  | zero => intro d q pc ls st h x e; simp [ev] at e
  | succ n ih =>
    intro d q pc ls st h x e
    rw [ev] at e
    rw [ev]
    split at e
    next => cases e
    next i hi =>
      try rw [hi]
      try dsimp only
      split at e
      next ls' st' h1 => (try rw [h1]); exact ih e
      next h1 =>
        try rw [h1]
        try dsimp only
        split at e
        next pc' st' h2 => (try rw [h2]); exact ih e
        next h2 =>
          try rw [h2]
          try dsimp only
          split at e
          next st' h' h3 => rw [xho_ro.1 _ h3]; exact ih e
          next h3 =>
            cases h9 : xho ro q.1 q.2.2.1 i st h with
            | some z =>
              obtain ⟨z1, z2, z3, z5, z4⟩ := xho_ro.2 z h3 h9
              rw [z1] at e
              dsimp only at e
              split at e
              next => cases e
              next d' =>
                rw [z2] at e
                dsimp only at e
                rw [z3] at e
                dsimp only at e
                rw [z5] at e
                dsimp only at e
                rw [z4] at e
                cases e
            | none =>
              dsimp only
              split at e
              next r h4 => (try rw [h4]); exact e
              next h4 =>
                try rw [h4]
                try dsimp only
                split at e
                next => cases e
                next d' =>
                  split at e
                  next rest h5 =>
                    obtain ⟨hz, e⟩ := xbif e
                    try rw [h5]
                    try dsimp only
                    rw [hz, cond_true]
                    exact ih e
                  next h5 =>
                    try rw [h5]
                    try dsimp only
                    split at e
                    next rest h6 =>
                      obtain ⟨hz, e⟩ := xbif e
                      try rw [h6]
                      try dsimp only
                      rw [hz, cond_true]
                      exact ih e
                    next h6 =>
                     try rw [h6]
                     try dsimp only
                     split at e
                     next rest h' h7 =>
                       obtain ⟨hz, e⟩ := xbif e
                       try rw [h7]
                       try dsimp only
                       rw [hz, cond_true]
                       exact ih e
                     next h7 =>
                      try rw [h7]
                      try dsimp only
                      split at e
                      next => cases e
                      next yk as rest hca =>
                        try rw [hca]
                        try dsimp only
                        split at e
                        next => cases e
                        next q' hq' =>
                          obtain ⟨hz, e⟩ := xbif e
                          try rw [hq']
                          try dsimp only
                          rw [hz, cond_true]
                          split at e
                          next => cases e
                          next r1 h' he1 =>
                            rw [ih he1]
                            exact ih e
end
section
/-! the two statics as rows that are read alone -/
def xsv1 : List Int32 := [0, 0, 0, 2, 1, 3, 0, 4]
def xsv2 : List Int32 := [1, 10, 11, 2, 20, 0, 0, 0, 0, 30, 0, 0, 0, 41, 40, 0, 0, 0, 50, 0, 0, 0, 0, 60, 70, 0, 0, 0, 0, 80, 0, 81]
/-- what the start gives of a static row -/
def xsg (n : String) (vs : List Int32) : Bool := decide (Cond.arrayOf (.static "TwoAlike$Twins" n "[I") .int ∈ flatC (Jvm.Cond.and given_1 narrow_1)) && decide (Cond.eq (.length (.static "TwoAlike$Twins" n "[I")) (.int (Int32.ofNat vs.length)) ∈ flatC (Jvm.Cond.and given_1 narrow_1)) &&
  (List.range vs.length).all fun j => decide (Cond.eq (.elem (.static "TwoAlike$Twins" n "[I") (.int (Int32.ofNat j))) (.int (vs.getD j 0)) ∈ flatC (Jvm.Cond.and given_1 narrow_1))
set_option maxRecDepth 100000 in
theorem xsg_ok : (xsg "ABOVE" xsv1 && xsg "BODIES" xsv2) = true := by decide +kernel
theorem xstat {args : Array Value} {s : State} {n : String} {vs : List Int32} {A : Nat → Prop} (hg : xsg n vs = true) (hN : vs.length < 2 ^ 31) (h : (Jvm.Cond.and given_1 narrow_1).before args s = true) (hl : (Cond.laysStatic "TwoAlike$Twins" n "[I").before args s = true) (hini : (Cond.initialized "TwoAlike$Twins").before args s = true) (hA : ∀ a : Nat, a < s.heap.size → ¬ A a) :
    ∃ t : Nat, t < s.heap.size ∧ va_Z "TwoAlike$Twins" n "[I" (.ref t) A s s.heap ∧ va_T .int t vs.length (fun j => .int (vs.getD j 0)) A s s.heap := by
  unfold xsg at hg
  simp only [Bool.and_eq_true, decide_eq_true_eq, List.all_eq_true, List.mem_range] at hg
  obtain ⟨⟨g1, g2⟩, g3⟩ := hg
  have hs := flat_of_before _ h
  have one : ∀ (a b : Term) (v : Value), (Cond.eq a b).before args s = true → b.eval args s none [] s = some v → a.eval args s none [] s = some v := by
    intro a b v e hb
    obtain ⟨y, y1, y2⟩ := Cond.eq_one e
    rw [y2] at hb
    cases hb
    exact y1
  obtain ⟨t, t1, t2⟩ := va_Tof (A := A) (f := fun j => .int (vs.getD j 0)) hN (hs _ g1) (one _ _ _ (hs _ g2) rfl) (fun j hj => one _ _ _ (hs _ (g3 j hj)) rfl) hA
  refine ⟨t, ?_, va_Zref hl hini t1 hA, t2⟩
  obtain ⟨cell, c1, -⟩ := t2
  exact (Array.getElem?_eq_some_iff.mp c1).1
end
section
/-! the two objects as they begin: by running the pure machine -/
/-- the cells of a new TwoAlike -/
def xhX : xH := [(11, [.ref 1, .ref 7, .int 0, .int 0, .ref 13, .ref 20, .ref 25, .ref 32, .ref 34, .ref 44, .ref 49, .ref 52, .ref 57, .ref 60]),
  (5, [.ref 2, .ref 3, .ref 4, .ref 5, .ref 6, .int 0]),
  (100, List.replicate 7 (.int (-1))),
  (100, List.replicate 210 (.int (-1))),
  (100, List.replicate 10 (.int 0)),
  (100, List.replicate 10 (.int 0)),
  (100, List.replicate 10 (.int 0)),
  (5, [.ref 8, .ref 9, .ref 10, .ref 11, .ref 12, .int 0]),
  (100, List.replicate 7 (.int (-1))),
  (100, List.replicate 210 (.int (-1))),
  (100, List.replicate 10 (.int 0)),
  (100, List.replicate 10 (.int 0)),
  (100, List.replicate 10 (.int 0)),
  (1, [.ref 1, .ref 14, .ref 15, .ref 16, .ref 17, .ref 18, .ref 19, .int 0, .int 0, .int 0]),
  (100, List.replicate 7 (.int 0)),
  (100, List.replicate 7 (.int 0)),
  (100, List.replicate 7 (.int 0)),
  (100, List.replicate 7 (.int 0)),
  (100, List.replicate 28 (.int 0)),
  (100, List.replicate 28 (.int 0)),
  (3, [.ref 21, .ref 22, .int 0, .ref 23, .int 0, .ref 24]),
  (100, List.replicate 128 (.int 0)),
  (100, List.replicate 128 (.int 0)),
  (100, List.replicate 128 (.int 0)),
  (100, List.replicate 6 (.int 0)),
  (8, [.ref 26, .ref 31, .int 0, .int 0]),
  (3, [.ref 27, .ref 28, .int 0, .ref 29, .int 0, .ref 30]),
  (100, List.replicate 128 (.int 0)),
  (100, List.replicate 128 (.int 0)),
  (100, List.replicate 128 (.int 0)),
  (100, List.replicate 6 (.int 0)),
  (100, List.replicate 120 (.int 0)),
  (4, [.ref 13, .ref 20, .ref 33]),
  (100, List.replicate 7 (.int 0)),
  (2, [.ref 13, .ref 32, .ref 35, .ref 36, .ref 37, .ref 38, .ref 39, .ref 40, .ref 41, .int 0, .ref 42, .ref 43, .int 0]),
  (100, List.replicate 35 (.int 0)),
  (100, List.replicate 7 (.int 0)),
  (100, List.replicate 7 (.int 0)),
  (100, List.replicate 7 (.int 0)),
  (101, List.replicate 7 (.int 0)),
  (100, List.replicate 7 (.int 0)),
  (100, List.replicate 7 (.int 0)),
  (100, List.replicate 7 (.int 0)),
  (100, List.replicate 7 (.int 0)),
  (10, [.ref 13, .ref 32, .ref 45, .ref 46, .ref 47, .ref 48, .int 0]),
  (100, List.replicate 343 (.int 0)),
  (100, List.replicate 56 (.int 0)),
  (100, List.replicate 7 (.int 0)),
  (100, List.replicate 7 (.int 0)),
  (7, [.ref 1, .ref 13, .ref 32, .ref 50, .ref 51, .int 0]),
  (100, List.replicate 10 (.int 0)),
  (100, List.replicate 10 (.int 0)),
  (0, [.ref 13, .ref 53, .ref 54, .ref 55, .ref 56, .int 0, .int 0]),
  (100, List.replicate 40 (.int 0)),
  (100, List.replicate 40 (.int 0)),
  (100, List.replicate 40 (.int 0)),
  (100, List.replicate 40 (.int 0)),
  (9, [.ref 58, .int 0, .ref 59, .int 0, .int 0]),
  (100, List.replicate 50 (.int 0)),
  (100, List.replicate 24 (.int 0)),
  (6, [.ref 61, .ref 62, .ref 63, .ref 64, .ref 65]),
  (100, List.replicate 6 (.int 0)),
  (100, List.replicate 6 (.int 0)),
  (100, List.replicate 6 (.int 0)),
  (100, List.replicate 6 (.int 0)),
  (102, List.replicate 360 (.long 0))]
/-- the cells of a new model, behind them -/
def xhM : xH := [(12, [.ref 67, .ref 68, .ref 69, .ref 70, .int 0, .int 0, .int 0, .ref 71, .ref 72, .ref 73, .ref 74, .ref 75, .int 0, .ref 76, .int (-1), .int 0, .int 0, .int 0, .int 0, .int 0, .ref 77, .ref 78, .ref 79, .ref 80, .ref 81, .int 0, .ref 82, .ref 83, .ref 84, .ref 85, .int 0, .ref 86, .ref 87, .ref 88, .int 0, .ref 89, .ref 90, .ref 91, .int 0, .int 0, .int 0, .ref 92, .ref 93, .ref 94, .int 0, .ref 95, .ref 96, .int 0, .int 0, .int 0, .ref 97, .ref 98, .ref 99, .ref 100]),
  (100, List.replicate 23 (.int 0)),
  (100, List.replicate 40 (.int 0)),
  (100, List.replicate 40 (.int 0)),
  (100, List.replicate 40 (.int 0)),
  (100, List.replicate 7 (.int (-1))),
  (100, List.replicate 7 (.int 0)),
  (100, List.replicate 28 (.int 0)),
  (100, List.replicate 28 (.int 0)),
  (100, List.replicate 120 (.int 0)),
  (100, List.replicate 120 (.int 0)),
  (100, List.replicate 6 (.int 0)),
  (100, List.replicate 7 (.int 0)),
  (100, List.replicate 210 (.int 0)),
  (101, List.replicate 7 (.int 0)),
  (100, List.replicate 7 (.int 0)),
  (100, List.replicate 7 (.int (-5))),
  (100, List.replicate 7 (.int (-5))),
  (100, List.replicate 7 (.int 0)),
  (100, List.replicate 7 (.int 0)),
  (101, List.replicate 2401 (.int 0)),
  (100, List.replicate 7 (.int 0)),
  (100, List.replicate 210 (.int (-1))),
  (100, List.replicate 30 (.int 0)),
  (100, List.replicate 10 (.int 0)),
  (100, List.replicate 1024 (.int 0)),
  (100, List.replicate 7 (.int 0)),
  (100, List.replicate 210 (.int 0)),
  (100, List.replicate 30 (.int 0)),
  (100, List.replicate 50 (.int 0)),
  (100, List.replicate 24 (.int 0)),
  (100, List.replicate 6 (.int (-1))),
  (100, List.replicate 6 (.int 0)),
  (102, List.replicate 360 (.long 0)),
  (102, List.replicate 60 (.long 0))]
def xq_X : xQ := (11, 1, 2, 0, k124)
def xq_M : xQ := (12, 2, 2, 0, k177)
def xd_X : List Value := [.null, .null, .int 0, .int 0, .null, .null, .null, .null, .null, .null, .null, .null, .null, .null]
def xd_M : List Value := [.null, .null, .null, .null, .int 0, .int 0, .int 0, .null, .null, .null, .null, .null, .int 0, .null, .int 0, .int 0, .int 0, .int 0, .int 0, .int 0, .null, .null, .null, .null, .null, .int 0, .null, .null, .null, .null, .int 0, .null, .null, .null, .int 0, .null, .null, .null, .int 0, .int 0, .int 0, .null, .null, .null, .int 0, .null, .null, .int 0, .int 0, .int 0, .null, .null, .null, .null]
set_option maxRecDepth 1000000 in
theorem ctor_X : ev [] 4780 13 xq_X 0 [(0, .ref 0)] [] [(11, xd_X)] = some (none, xhX) := by decide +kernel
set_option maxRecDepth 1000000 in
theorem ctor_M : ev [] 2507 13 xq_M 0 [(0, .ref 66)] [] (xhX ++ [(12, xd_M)]) = some (none, xhX ++ xhM) := by decide +kernel
end
section
/-! the bounded machine: values by number, bounds of cells, contracts, loops cut at points -/
abbrev jV : Type := Value ⊕ Nat
abbrev jD : Type := Nat × jV × jV
abbrev jRow : Type := Nat × Int × Int × Option jD
abbrev jTb : Type := List (Nat × jRow)
abbrev jM : Type := List ((Nat × Nat) × jV)
abbrev jS : Type := Nat × jTb × jM × jM
abbrev jP : Type := List (Value ⊕ List Value)
abbrev jL : Type := List (Nat × jV)
def jk (v : Value) : Nat := match v with
  | .int _ => 0
  | .long _ => 1
  | _ => 2
def jz (v : Value) : Int := match v with
  | .int x => x.toInt
  | .long x => x.toInt
  | _ => 0
def jR (r : jP) (a : jV) (v : Value) : Prop := match a with
  | .inl w => v = w
  | .inr s => r[s]? = some (.inl v)
def jve (a b : jV) : Bool := match a, b with
  | .inr s, .inr t => Nat.beq s t
  | .inl (.int x), .inl (.int y) => x == y
  | .inl (.long x), .inl (.long y) => x == y
  | .inl (.ref x), .inl (.ref y) => Nat.beq x y
  | .inl (.retAddr x), .inl (.retAddr y) => Nat.beq x y
  | _, _ => false
def jbd (g : jS) (a : jV) : Option (Nat × Int × Int) := match a with
  | .inl (.int x) => some (0, x.toInt, x.toInt)
  | .inl (.long x) => some (1, x.toInt, x.toInt)
  | .inl _ => none
  | .inr s => (xfd g.2.1 s).map fun q => (q.1, q.2.1, q.2.2.1)
def jnm (g : jS) (a : jV) : jV := match a with
  | .inl v => .inl v
  | .inr s => match xfd g.2.1 s with
    | some q => bif Nat.beq q.1 0 && decide (q.2.1 = q.2.2.1) then .inl (.int (Int32.ofInt q.2.1)) else .inr s
    | none => .inr s
def jcat (g : jS) (a : jV) : Nat := match a with
  | .inl v => v.category
  | .inr s => match xfd g.2.1 s with
    | some q => bif Nat.beq q.1 0 then 1 else 2
    | none => 2
/-- a new number -/
def jfr (g : jS) (q : jRow) : jV × jS := (.inr g.1, (g.1 + 1, (g.1, q) :: g.2.1, g.2.2.1, g.2.2.2))
/-- what an operation gives: 0 is 'no less than' -/
def jop (o : Nat) (x y : Value) : Option Value := match o, x, y with
  | 1, .int x, .int y => some (.int (x + y))
  | 2, .int x, .int y => some (.int (x - y))
  | 3, .int x, .int y => some (.int (x * y))
  | 4, .int x, .int y => bif decide (y = 0) then none else some (.int (x / y))
  | 5, .int x, .int y => bif decide (y = 0) then none else some (.int (x - x / y * y))
  | 6, .int x, .int y => some (.int (x &&& y))
  | 7, .int x, .int y => some (.int (x ||| y))
  | 8, .int x, .int y => some (.int (x ^^^ y))
  | 9, .int x, .int y => some (.int (x <<< (y &&& 31)))
  | 10, .int x, .int y => some (.int (x >>> (y &&& 31)))
  | 11, .int x, .int y => some (.int (x.toUInt32 >>> (y.toUInt32 &&& Int32.toUInt32 31)).toInt32)
  | 12, .int x, .int _ => some (.int (-x))
  | 13, .int x, .int _ => some (.long x.toInt64)
  | 14, .long x, .int _ => some (.int x.toInt32)
  | 15, .int x, .int _ => some (.int x.toInt8.toInt32)
  | 16, .int x, .int _ => some (.int x.toInt16.toInt32)
  | 17, .long x, .long y => some (.int (lg_cmp x y))
  | 21, .int x, .int y => some (.int (if x < y then y else x))
  | 22, .int x, .int y => some (.int (if y < x then y else x))
  | 23, .int x, .int y => some (.int (if x < y then -1 else if x = y then 0 else 1))
  | _, _, _ => none
/-- kinds of what goes in, of what comes -/
def jkd (o : Nat) : Nat × Nat × Nat := match o with
  | 13 => (0, 0, 1)
  | 14 => (1, 0, 0)
  | 17 => (1, 1, 0)
  | _ => (0, 0, 0)
abbrev jF : Int × Int := (-2147483648, 2147483647)
def jft (l h : Int) : Int × Int := bif decide (-2147483648 ≤ l) && decide (h ≤ 2147483647) then (l, h) else jF
/-- the least of 2^k - 1 that is no less -/
def jpw (h : Int) : Option Int := bif decide (h ≤ 1) then some 1 else bif decide (h ≤ 3) then some 3 else bif decide (h ≤ 7) then some 7 else bif decide (h ≤ 15) then some 15 else bif decide (h ≤ 31) then some 31 else bif decide (h ≤ 63) then some 63 else bif decide (h ≤ 127) then some 127 else bif decide (h ≤ 255) then some 255 else bif decide (h ≤ 511) then some 511 else bif decide (h ≤ 1023) then some 1023 else none
def jmi (a b : Int) : Int := bif decide (a ≤ b) then a else b
def jma (a b : Int) : Int := bif decide (a ≤ b) then b else a
def jbn (o : Nat) (a b : Int × Int) : Int × Int := match o with
  | 1 => jft (a.1 + b.1) (a.2 + b.2)
  | 2 => jft (a.1 - b.2) (a.2 - b.1)
  | 3 => bif decide (0 ≤ a.1) && decide (0 ≤ b.1) then jft (a.1 * b.1) (a.2 * b.2) else jF
  | 4 => bif decide (b.1 = b.2) && decide (0 < b.1) then (a.1.tdiv b.1, a.2.tdiv b.1) else jF
  | 5 => bif decide (b.1 = b.2) && decide (0 < b.1) && decide (0 ≤ a.1) then (0, jmi a.2 (b.1 - 1)) else jF
  | 6 => bif decide (0 ≤ a.1) then (0, bif decide (0 ≤ b.1) then jmi a.2 b.2 else a.2) else bif decide (0 ≤ b.1) then (0, b.2) else jF
  | 7 => bif decide (0 ≤ a.1) && decide (0 ≤ b.1) then (match jpw (jma a.2 b.2) with | some m => (0, m) | none => jF) else jF
  | 8 => bif decide (0 ≤ a.1) && decide (0 ≤ b.1) then (match jpw (jma a.2 b.2) with | some m => (0, m) | none => jF) else jF
  | 9 => bif decide (0 ≤ a.1) && decide (0 ≤ b.1) && decide (b.2 ≤ 30) && decide (a.2 * 2 ^ b.2.toNat ≤ 2147483647) then (a.1 * 2 ^ b.1.toNat, a.2 * 2 ^ b.2.toNat) else jF
  | 13 => a
  | 14 => bif decide (-2147483648 ≤ a.1) && decide (a.2 ≤ 2147483647) then a else jF
  | 17 => bif decide (a.2 < b.1) then (-1, -1) else bif decide (b.2 < a.1) then (1, 1) else (-1, 1)
  | 22 => (jmi a.1 b.1, jmi a.2 b.2)
  | 23 => bif decide (a.2 < b.1) then (-1, -1) else bif decide (b.2 < a.1) then (1, 1) else (-1, 1)
  | _ => jF
/-- cut a value's bounds; none: nothing is left -/
def jcr (g : jS) (s : Nat) (q : jRow) (lo hi : Int) : jS := (g.1, (s, (q.1, jma q.2.1 lo, jmi q.2.2.1 hi, q.2.2.2)) :: g.2.1.filter (fun x => !Nat.beq x.1 s), g.2.2.1, g.2.2.2)
def jcut : Nat → jS → jV → Int → Int → Option jS
  | _, g, .inl v, lo, hi => bif decide (lo ≤ jz v) && decide (jz v ≤ hi) then some g else none
  | 0, g, .inr s, lo, hi => match xfd g.2.1 s with
    | none => some g
    | some q => bif decide (jmi q.2.2.1 hi < jma q.2.1 lo) then none
      else bif decide (lo ≤ q.2.1) && decide (q.2.2.1 ≤ hi) then some g
      else some (jcr g s q lo hi)
  | n + 1, g, .inr s, lo, hi => match xfd g.2.1 s with
    | none => some g
    | some q => bif decide (jmi q.2.2.1 hi < jma q.2.1 lo) then none
      else bif decide (lo ≤ q.2.1) && decide (q.2.2.1 ≤ hi) then some g
      else match q.2.2.2 with
          | some (13, a, _) => jcut n (jcr g s q lo hi) a (jma q.2.1 lo) (jmi q.2.2.1 hi)
          | some (1, a, b) => match jbd g a, jbd g b with
            | some p, some t => bif decide (-2147483648 ≤ p.2.1 + t.2.1) && decide (p.2.2 + t.2.2 ≤ 2147483647) then
                (jcut n (jcr g s q lo hi) a (jma q.2.1 lo - t.2.2) (jmi q.2.2.1 hi - t.2.1)).bind fun g2 => jcut n g2 b (jma q.2.1 lo - p.2.2) (jmi q.2.2.1 hi - p.2.1)
              else some (jcr g s q lo hi)
            | _, _ => some (jcr g s q lo hi)
          | some (2, a, b) => match jbd g a, jbd g b with
            | some p, some t => bif decide (-2147483648 ≤ p.2.1 - t.2.2) && decide (p.2.2 - t.2.1 ≤ 2147483647) then
                (jcut n (jcr g s q lo hi) a (jma q.2.1 lo + t.2.1) (jmi q.2.2.1 hi + t.2.2)).bind fun g2 => jcut n g2 b (p.2.1 - jmi q.2.2.1 hi) (p.2.2 - jma q.2.1 lo)
              else some (jcr g s q lo hi)
            | _, _ => some (jcr g s q lo hi)
          | _ => some (jcr g s q lo hi)
def jde (d e : Option jD) : Bool := match d, e with
  | some a, some b => Nat.beq a.1 b.1 && jve a.2.1 b.2.1 && jve a.2.2 b.2.2
  | _, _ => false
def jvn : jTb → Option jD → Option Nat
  | [], _ => none
  | q :: t, d => bif jde q.2.2.2.2 d then some q.1 else jvn t d
def jvo (o : Nat) : Bool := match o with
  | 0 => false
  | 18 => false
  | 19 => false
  | 20 => false
  | o => Nat.blt o 24
def jdk (o : Nat) (l h : Int) : Bool := jvo o && bif Nat.beq o 4 || Nat.beq o 5 then decide (0 < l) || decide (h < 0) else true
def jar1 (g : jS) (o : Nat) (a b : jV) : Option (jV × jS) := match jbd g a, jbd g b with
  | some p, some q => bif Nat.beq p.1 (jkd o).1 && Nat.beq q.1 (jkd o).2.1 && jdk o q.2.1 q.2.2 then
      match jvn g.2.1 (some (o, a, b)) with
      | some s => (jcut 3 g (.inr s) (jbn o p.2 q.2).1 (jbn o p.2 q.2).2).map fun g2 => (jnm g2 (.inr s), g2)
      | none => some (jfr g ((jkd o).2.2, (jbn o p.2 q.2).1, (jbn o p.2 q.2).2, some (o, a, b)))
    else none
  | _, _ => none
def jsw (o : Nat) (a : jV) : Bool := (Nat.beq o 1 || Nat.beq o 3) && (match a with | .inl _ => true | .inr _ => false)
def jar2 (g : jS) (o : Nat) (a b : jV) : Option (jV × jS) := match a, b with
  | .inl x, .inl y => (jop o x y).map fun v => (.inl v, g)
  | a, b => bif jsw o a then jar1 g o b a else jar1 g o a b
def jar (g : jS) (o : Nat) (a b : jV) : Option (jV × jS) := jar2 g o (jnm g a) (jnm g b)
/-! branches -/
def jgq (g : jS) (b a : jV) : Bool := match b with
  | .inr s => match xfd g.2.1 s with
    | some q => match q.2.2.2 with
      | some (0, c, _) => jve c a
      | _ => false
    | none => false
  | .inl _ => false
/-- a fact on two numbers -/
def jfa (g : jS) (a b : jV) (lo hi : Int) : Option jS := match a, b with
  | .inr s, .inr t => match jar1 g 23 (.inr s) (.inr t) with
    | some z => jcut 0 z.2 z.1 lo hi
    | none => some g
  | _, _ => some g
def jlt (g : jS) (a b : jV) : Option jS := (jfa g a b (-1) (-1)).bind fun g => match jbd g a, jbd g b with
  | some _, some q => (jcut 4 g a (-9223372036854775808) (q.2.2 - 1)).bind fun g2 => match jbd g2 a with
    | some p => jcut 4 g2 b (p.2.1 + 1) 9223372036854775807
    | none => some g2
  | _, _ => some g
def jge (g : jS) (a b : jV) : Option jS := (jfa g a b 0 1).bind fun g => match jbd g a, jbd g b with
  | some _, some q => (jcut 4 g a q.2.1 9223372036854775807).bind fun g2 => match jbd g2 a with
    | some p => jcut 4 g2 b (-9223372036854775808) p.2.2
    | none => some g2
  | _, _ => some g
def jeq (g : jS) (a b : jV) : Option jS := match jbd g a, jbd g b with
  | some p, some q => (jcut 4 g a q.2.1 q.2.2).bind fun g2 => jcut 4 g2 b p.2.1 p.2.2
  | _, _ => some g
def jne (g : jS) (a b : jV) : List jS := bif jgq g b a then (jlt g a b).toList else bif jgq g a b then (jlt g b a).toList else match jbd g a, jbd g b with
  | some p, some q => bif decide (q.2.1 = q.2.2) then (jcut 4 g a (-9223372036854775808) (q.2.1 - 1)).toList ++ (jcut 4 g a (q.2.1 + 1) 9223372036854775807).toList
    else bif decide (p.2.1 = p.2.2) then (jcut 4 g b (-9223372036854775808) (p.2.1 - 1)).toList ++ (jcut 4 g b (p.2.1 + 1) 9223372036854775807).toList
    else [g]
  | _, _ => [g]
def jrf (g : jS) (c : ClassFile.Cond) (a b : jV) : List jS := match c with
  | .lt => (jlt g a b).toList
  | .ge => (jge g a b).toList
  | .gt => (jlt g b a).toList
  | .le => (jge g b a).toList
  | .eq => (jeq g a b).toList
  | .ne => jne g a b
def jng (c : ClassFile.Cond) : ClassFile.Cond := match c with
  | .lt => .ge
  | .ge => .lt
  | .gt => .le
  | .le => .gt
  | .eq => .ne
  | .ne => .eq
/-- an answer of lcmp -/
def jlc (g : jS) (a : jV) : Option (jV × jV) := match a with
  | .inr s => match xfd g.2.1 s with
    | some q => match q.2.2.2 with
      | some (17, x, y) => some (x, y)
      | _ => none
    | none => none
  | .inl _ => none
def jb2 (g : jS) (c : ClassFile.Cond) (a b : jV) (t f : Nat) (st : List jV) : List (Nat × List jV × jS) := (jrf g c a b).map (fun g => (t, st, g)) ++ (jrf g (jng c) a b).map (fun g => (f, st, g))
def jsk (g : jS) (a : jV) (pc : Nat) (st : List jV) : List (Int × Int) → List (Nat × List jV × jS)
  | [] => []
  | q :: l => match jcut 4 g a q.1 q.1, xtg pc q.2 with
    | some g2, some t => (t, st, g2) :: jsk g a pc st l
    | _, _ => jsk g a pc st l
def jtz (lo : Int) (offs : List Int) : List (Int × Int) := match offs with
  | [] => []
  | o :: l => (lo, o) :: jtz (lo + 1) l
def jbr (i : Instr) (pc : Nat) (st : List jV) (g : jS) : Option (List (Nat × List jV × jS)) := match i, st with
  | .goto o, st => (xtg pc o).map fun t => [(t, st, g)]
  | .ifCond c o, a :: st => match jbd g a, xtg pc o with
    | some (0, _, _), some t => match jlc g a with
      | some p => some (jb2 g c p.1 p.2 t (pc + 3) st)
      | none => some (jb2 g c a (.inl (.int 0)) t (pc + 3) st)
    | _, _ => none
  | .if_icmp c o, b :: a :: st => match jbd g a, jbd g b, xtg pc o with
    | some (0, _, _), some (0, _, _), some t => some (jb2 g c a b t (pc + 3) st)
    | _, _, _ => none
  | .tableswitch d lo hi offs, a :: st => match jbd g a, xtg pc d with
    | some (0, _, _), some t => bif (jtz lo offs.toList).all (fun q => (xtg pc q.2).isSome) && decide (offs.toList.length = (hi - lo + 1).toNat) then some ((jcut 4 g a (-9223372036854775808) (lo - 1)).toList.map (fun g => (t, st, g)) ++ ((jcut 4 g a (hi + 1) 9223372036854775807).toList.map (fun g => (t, st, g)) ++ jsk g a pc st (jtz lo offs.toList))) else none
    | _, _ => none
  | .lookupswitch d ps, a :: st => match jbd g a, xtg pc d with
    | some (0, _, _), some t => bif (ps.toList.zip (ps.toList.drop 1)).all (fun (a, next) => a.1 < next.1) && ps.toList.all (fun q => (xtg pc q.2).isSome) then
        some (match jnm g a with
          | .inl (.int x) => (match xtg pc (Op.lookupswitch.offset ps.toList d x.toInt) with | some t => [(t, st, g)] | none => [])
          | _ => (t, st, g) :: jsk g a pc st ps.toList) else none
    | _, _ => none
  | _, _ => none
end
section
/-! the bounded machine: cells, calls, loops, runs -/
abbrev jG1 : Type := Nat × (List (Value ⊕ (Int × Int)) ⊕ (Nat × Int × Int))
abbrev jGt : Type := List (List jG1)
def jgc (G : jGt) (r : Nat) : Option jG1 := match G[r / 16]? with
  | some l => l[r % 16]?
  | none => none
def jmg : jM → Nat → Nat → Option jV
  | [], _, _ => none
  | q :: t, r, k => bif Nat.beq q.1.1 r && Nat.beq q.1.2 k then some q.2 else jmg t r k
def jw (W : List (Nat × Nat)) (r k : Nat) : Bool := W.any fun w => Nat.beq w.1 r && (Nat.beq w.2 9999 || Nat.beq w.2 k)
def jwr (W : List (Nat × Nat)) (r : Nat) : Bool := W.any fun w => Nat.beq w.1 r
def jwa (W : List (Nat × Nat)) (r : Nat) : Bool := W.any fun w => Nat.beq w.1 r && Nat.beq w.2 9999
def jin (g : jS) (a : jV) (k : Nat) (lo hi : Int) : Bool := match jbd g a with
  | some p => Nat.beq p.1 k && decide (lo ≤ p.2.1) && decide (p.2.2 ≤ hi)
  | none => false
/-- a field -/
def jfl (G : jGt) (g : jS) (r k : Nat) : Option (jV × jS) := match jgc G r with
  | some (_, .inl fs) => match fs[k]? with
    | some (.inl v) => some (.inl v, g)
    | some (.inr b) => match jmg g.2.2.1 r k with
      | some a => some (jnm g a, g)
      | none => some (.inr g.1, (g.1 + 1, (g.1, (0, b.1, b.2, none)) :: g.2.1, ((r, k), .inr g.1) :: g.2.2.1, g.2.2.2))
    | none => none
  | _ => none
def jpt (G : jGt) (W : List (Nat × Nat)) (g : jS) (r k : Nat) (a : jV) : Option jS := match jgc G r with
  | some (_, .inl fs) => match fs[k]? with
    | some (.inr b) => bif jin g a 0 b.1 b.2 && jw W r k then some (g.1, g.2.1, ((r, k), jnm g a) :: g.2.2.1.filter (fun q => !(Nat.beq q.1.1 r && Nat.beq q.1.2 k)), g.2.2.2.filter (fun q => !Nat.beq q.1.1 r)) else none
    | _ => none
  | _ => none
/-- an element -/
def jal (G : jGt) (g : jS) (t r : Nat) (j : jV) : Option (jV × jS) := match jgc G r with
  | some (t', .inr b) => bif Nat.beq t t' && jin g j 0 0 ((b.1 : Int) - 1) then
      match jnm g j with
      | .inl (.int x) => match jmg g.2.2.1 r x.toNatClampNeg with
        | some a => some (jnm g a, g)
        | none => some (.inr g.1, (g.1 + 1, (g.1, (bif Nat.beq t 102 then 1 else 0, b.2.1, b.2.2, none)) :: g.2.1, ((r, x.toNatClampNeg), .inr g.1) :: g.2.2.1, g.2.2.2))
      | .inr s => match jmg g.2.2.2 r s with
        | some a => some (jnm g a, g)
        | none => some (.inr g.1, (g.1 + 1, (g.1, (bif Nat.beq t 102 then 1 else 0, b.2.1, b.2.2, none)) :: g.2.1, g.2.2.1, ((r, s), .inr g.1) :: g.2.2.2))
      | _ => none
    else none
  | _ => none
def jas (G : jGt) (W : List (Nat × Nat)) (g : jS) (t r : Nat) (j a : jV) : Option jS := match jgc G r with
  | some (t', .inr b) => bif Nat.beq t t' && jin g j 0 0 ((b.1 : Int) - 1) && jin g a (bif Nat.beq t 102 then 1 else 0) b.2.1 b.2.2 && jwa W r then
      match jnm g j with
      | .inl (.int x) => some (g.1, g.2.1, ((r, x.toNatClampNeg), jnm g a) :: g.2.2.1.filter (fun q => !(Nat.beq q.1.1 r && Nat.beq q.1.2 x.toNatClampNeg)), g.2.2.2.filter (fun q => !Nat.beq q.1.1 r))
      | .inr s => some (g.1, g.2.1, g.2.2.1.filter (fun q => !Nat.beq q.1.1 r), ((r, s), jnm g a) :: g.2.2.2.filter (fun q => !Nat.beq q.1.1 r))
      | _ => none
    else none
  | _ => none
/-- the two static rows -/
def jst (g : jS) (q : Nat) (j : jV) : Option (jV × jS) := match (bif Nat.beq q 1 then some xsv1 else bif Nat.beq q 2 then some xsv2 else none) with
  | some vs => bif jin g j 0 0 ((vs.length : Int) - 1) then
      match jnm g j with
      | .inl (.int x) => (vs[x.toNatClampNeg]?).map fun v => (.inl (.int v), g)
      | _ => some (jfr g (0, 0, 81, none))
    else none
  | none => none
def jho (G : jGt) (W : List (Nat × Nat)) (own : Nat) (i : Instr) (st : List jV) (g : jS) : Option (List jV × jS) := match i, st with
  | .getfield idx, .inl (.ref r) :: st => match xtb xF own idx, jgc G r with
    | some (ci, k, _), some (t, _) => bif Nat.beq t ci then (jfl G g r k).map fun z => (z.1 :: st, z.2) else none
    | _, _ => none
  | .putfield idx, a :: .inl (.ref r) :: st => match xtb xF own idx, jgc G r with
    | some (ci, k, _), some (t, _) => bif Nat.beq t ci then
        match xT[ci]? with
        | some cs => match cs[k]? with
          | some c => bif Nat.blt c 2 && (Nat.beq c 0 || jin g a 0 0 1) then (jpt G W g r k a).map fun g => (st, g) else none
          | none => none
        | none => none
      else none
    | _, _ => none
  | .iaload, j :: .inl (.ref r) :: st => (jal G g 100 r j).map fun z => (z.1 :: st, z.2)
  | .baload, j :: .inl (.ref r) :: st => (jal G g 101 r j).map fun z => (z.1 :: st, z.2)
  | .laload, j :: .inl (.ref r) :: st => (jal G g 102 r j).map fun z => (z.1 :: st, z.2)
  | .iaload, j :: .inl (.retAddr q) :: st => (jst g q j).map fun z => (z.1 :: st, z.2)
  | .iastore, a :: j :: .inl (.ref r) :: st => (jas G W g 100 r j a).map fun g => (st, g)
  | .bastore, a :: j :: .inl (.ref r) :: st => bif jin g a 0 0 1 then (jas G W g 101 r j a).map fun g => (st, g) else none
  | .lastore, a :: j :: .inl (.ref r) :: st => (jas G W g 102 r j a).map fun g => (st, g)
  | .arraylength, .inl (.ref r) :: st => match jgc G r with
    | some (100, .inr b) => some (.inl (.int (Int32.ofNat b.1)) :: st, g)
    | _ => none
  | .getstatic idx, st => (xtb xG own idx).map fun k => (.inl (.retAddr k.1) :: st, g)
  | _, _ => none
/-- locals and stack -/
def jld (g : jS) (ls : jL) (k kd : Nat) : Option jV := match xfd ls k with
  | some a => bif jin g a kd (-9223372036854775808) 9223372036854775807 then some (jnm g a) else none
  | none => none
def jlr (ls : jL) (k : Nat) : Option jV := match xfd ls k with
  | some (.inl (.ref r)) => some (.inl (.ref r))
  | _ => none
def js1 (g : jS) (ls : jL) (i : Nat) (a : jV) : jL := (i, a) :: ls.filter (fun q => !(Nat.beq q.1 i) && !(Nat.beq (q.1 + 1) i && Nat.beq (jcat g q.2) 2))
def js2 (g : jS) (ls : jL) (i : Nat) (a : jV) : jL := (i, a) :: ls.filter (fun q => !(Nat.beq q.1 i) && (!(Nat.beq q.1 (i + 1)) && !(Nat.beq (q.1 + 1) i && Nat.beq (jcat g q.2) 2)))
def jbo (i : Instr) : Option Nat := match i with
  | .iadd => some 1
  | .isub => some 2
  | .imul => some 3
  | .idiv => some 4
  | .irem => some 5
  | .iand => some 6
  | .ior => some 7
  | .ixor => some 8
  | .ishl => some 9
  | .ishr => some 10
  | .iushr => some 11
  | .lcmp => some 17
  | _ => none
def juo (i : Instr) : Option Nat := match i with
  | .ineg => some 12
  | .i2l => some 13
  | .l2i => some 14
  | .i2b => some 15
  | .i2s => some 16
  | _ => none
def jx1 (own nL : Nat) (i : Instr) (ls : jL) (st : List jV) (g : jS) : Option (jL × List jV × jS) := match i, st with
  | .iconst n, st => some (ls, .inl (.int (Int32.ofInt n)) :: st, g)
  | .bipush n, st => some (ls, .inl (.int (Int8.ofInt n).toInt32) :: st, g)
  | .sipush n, st => some (ls, .inl (.int (Int16.ofInt n).toInt32) :: st, g)
  | .lconst n, st => some (ls, .inl (.long (Int64.ofNat (n : Nat))) :: st, g)
  | .ldc k, st => (xtb xI own k).map fun v => (ls, .inl (.int v.1) :: st, g)
  | .ldc_w k, st => (xtb xI own k).map fun v => (ls, .inl (.int v.1) :: st, g)
  | .ldc2_w k, st => (xtb xJ own k).map fun v => (ls, .inl (.long v.1) :: st, g)
  | .iload_n k, st => (jld g ls k 0).map fun v => (ls, v :: st, g)
  | .iload k, st => (jld g ls k 0).map fun v => (ls, v :: st, g)
  | .lload_n k, st => (jld g ls k 1).map fun v => (ls, v :: st, g)
  | .lload k, st => (jld g ls k 1).map fun v => (ls, v :: st, g)
  | .aload_n k, st => (jlr ls k).map fun v => (ls, v :: st, g)
  | .aload k, st => (jlr ls k).map fun v => (ls, v :: st, g)
  | .istore_n k, a :: st => bif jin g a 0 (-2147483648) 2147483647 && Nat.blt k nL then some (js1 g ls k a, st, g) else none
  | .istore k, a :: st => bif jin g a 0 (-2147483648) 2147483647 && Nat.blt k nL then some (js1 g ls k a, st, g) else none
  | .lstore_n k, a :: st => bif jin g a 1 (-9223372036854775808) 9223372036854775807 && Nat.blt (k + 1) nL then some (js2 g ls k a, st, g) else none
  | .lstore k, a :: st => bif jin g a 1 (-9223372036854775808) 9223372036854775807 && Nat.blt (k + 1) nL then some (js2 g ls k a, st, g) else none
  | .iinc k n, st => match jld g ls k 0 with
    | some a => bif Nat.blt k nL then (jar g 1 a (.inl (.int (Int32.ofInt n)))).map fun z => (js1 z.2 ls k z.1, st, z.2) else none
    | none => none
  | .dup, a :: st => bif Nat.beq (jcat g a) 1 then some (ls, a :: a :: st, g) else none
  | .pop, a :: st => bif Nat.beq (jcat g a) 1 then some (ls, st, g) else none
  | .dup2, a :: b :: st => bif Nat.beq (jcat g a) 1 && Nat.beq (jcat g b) 1 then some (ls, a :: b :: a :: b :: st, g) else none
  | i, a :: st => match juo i with
    | some o => (jar g o a (.inl (.int 0))).map fun z => (ls, z.1 :: st, z.2)
    | none => match jbo i, st with
      | some o, b :: st => (jar g o b a).map fun z => (ls, z.1 :: st, z.2)
      | _, _ => none
  | _, _ => none
/-- ends -/
def jrt (ret : Nat) (i : Instr) (st : List jV) (g : jS) : Option (Option jV) := match i, st with
  | .return_, [] => bif Nat.beq ret 0 then some none else none
  | .ireturn, [a] => bif Nat.beq ret 1 && jin g a 0 (-2147483648) 2147483647 then some (some (jnm g a)) else bif Nat.beq ret 2 && jin g a 0 0 1 then some (some (jnm g a)) else none
  | .lreturn, [a] => bif Nat.beq ret 3 && jin g a 1 (-9223372036854775808) 9223372036854775807 then some (some (jnm g a)) else none
  | _, _ => none
/-- calls -/
def jtk : Nat → List jV → List jV → Option (List jV × List jV)
  | 0, as, st => some (as, st)
  | n + 1, as, v :: st => jtk n (v :: as) st
  | _ + 1, _, [] => none
def jcs (g : jS) : List jV → Nat
  | [] => 0
  | a :: l => jcat g a + jcs g l
def jlv (g : jS) : Nat → List jV → jL
  | _, [] => []
  | i, a :: l => (i, a) :: jlv g (bif Nat.beq (jcat g a) 2 then i + 2 else i + 1) l
def jkw1 (g : jS) (a : jV) : Bool := match a with
  | .inl _ => true
  | .inr s => match xfd g.2.1 s with
    | some q => Nat.ble q.1 1
    | none => false
def jkw (g : jS) (l : List jV) : Bool := l.all (jkw1 g)
def jca (G : jGt) (own : Nat) (i : Instr) (st : List jV) : Option (Nat × List jV × List jV) := match i with
  | .invokevirtual idx => match xtb xC own idx with
    | some (y, n, _, nest) => match xM[y]?, jtk n [] st with
      | some (o, _, kind, _), some (as, .inl (.ref r) :: rest) => match jgc G r with
        | some (t, _) => bif Nat.blt y xOw && Nat.beq kind 1 && Nat.beq nest 0 && Nat.beq t o && Nat.blt t 13 then some (y, .inl (.ref r) :: as, rest) else none
        | none => none
      | _, _ => none
    | none => none
  | .invokestatic idx => match xtb xC own idx with
    | some (y, n, _, nest) => match xM[y]?, jtk n [] st with
      | some (_, _, kind, _), some (as, rest) => bif Nat.blt y xOw && Nat.beq kind 0 && Nat.beq nest 0 then some (y, as, rest) else none
      | _, _ => none
    | none => none
  | _ => none
def jmm (own : Nat) (i : Instr) (st : List jV) (g : jS) : Option (List jV × jS) := match i, st with
  | .invokestatic idx, b :: a :: rest => match xtb xC own idx with
    | some (m, _, _, nest) => bif Nat.beq nest 0 then (bif Nat.beq m xMx then (jar g 21 a b).map (fun z => (z.1 :: rest, z.2)) else bif Nat.beq m xMn then (jar g 22 a b).map (fun z => (z.1 :: rest, z.2)) else none) else none
    | none => none
  | _, _ => none
def jay (G : jGt) (W : List (Nat × Nat)) (own : Nat) (i : Instr) (st : List jV) (g : jS) : Option (List jV × jS) := match i, st with
  | .invokestatic idx, n :: dp :: .inl (.ref rd) :: sp :: .inl (.ref rs) :: rest => match xtb xY own idx, jgc G rs, jgc G rd, jbd g n with
    | some _, some (102, .inr b0), some (102, .inr b1), some q => bif jin g n 0 0 2147483647 && jin g sp 0 0 ((b0.1 : Int) - q.2.2) && jin g dp 0 0 ((b1.1 : Int) - q.2.2) && jwa W rd && decide (b1.2.1 ≤ b0.2.1) && decide (b0.2.2 ≤ b1.2.2) then
        some (rest, (g.1, g.2.1, g.2.2.1.filter (fun q => !Nat.beq q.1.1 rd), g.2.2.2.filter (fun q => !Nat.beq q.1.1 rd)))
      else none
    | _, _, _, _ => none
  | _, _ => none
/-! contracts: method, depth, arguments, fields before, writes, outcomes -/
abbrev jBx : Type := Value ⊕ (Nat × Int × Int)
abbrev jFd : Type := (Nat × Nat) × Int × Int × Bool
abbrev jOc : Type := Option (Nat × Int × Int) × List jFd
abbrev jC : Type := Nat × Nat × List jBx × List jFd × List (Nat × Nat) × List jOc
def jab (g : jS) : List jV → List jBx → Bool
  | [], [] => true
  | a :: as, .inl v :: bs => jve a (.inl v) && jab g as bs
  | a :: as, .inr b :: bs => jin g a b.1 b.2.1 b.2.2 && jab g as bs
  | _, _ => false
/-- what is known of a field, where nothing is new -/
def jfb (G : jGt) (g : jS) (r k : Nat) (lo hi : Int) : Bool := match jmg g.2.2.1 r k with
  | some a => jin g a 0 lo hi
  | none => match jgc G r with
    | some (_, .inl fs) => (match fs[k]? with
      | some (.inr b) => decide (lo ≤ b.1) && decide (b.2 ≤ hi)
      | _ => false)
    | _ => false
def jcf (G : jGt) (g : jS) (y : Nat) (as : List jV) : List jC → Option jC
  | [] => none
  | c :: cs => bif Nat.beq c.1 y && jab g as c.2.2.1 && c.2.2.2.1.all (fun f => jfb G g f.1.1 f.1.2 f.2.1 f.2.2.1) then some c else jcf G g y as cs
/-- fields that are to be there -/
def jfs (G : jGt) : jS → List jFd → Option (List jV × jS)
  | g, [] => some ([], g)
  | g, f :: fs => match jfl G g f.1.1 f.1.2 with
    | some z => (jfs G z.2 fs).map fun w => (z.1 :: w.1, w.2)
    | none => none
/-- new numbers for fields -/
def jnf : jS → List jFd → List jV → jS
  | g, f :: fs, e :: es => jnf (g.1 + 1, (g.1, (0, f.2.1, f.2.2.1, bif f.2.2.2 then some (0, e, .inl (.int 0)) else none)) :: g.2.1, ((f.1.1, f.1.2), .inr g.1) :: g.2.2.1, g.2.2.2) fs es
  | g, _, _ => g
def jdr (W : List (Nat × Nat)) (g : jS) : jS := (g.1, g.2.1, g.2.2.1.filter (fun q => !jw W q.1.1 q.1.2), g.2.2.2.filter (fun q => !jwr W q.1.1))
def jco (G : jGt) (g : jS) (c : jC) (o : jOc) : Option (Option jV × jS) := match jfs G g o.2 with
  | some z => match o.1 with
    | none => some (none, jnf (jdr c.2.2.2.2.1 z.2) o.2 z.1)
    | some b => some ((some (jfr (jnf (jdr c.2.2.2.2.1 z.2) o.2 z.1) (b.1, b.2.1, b.2.2, none)).1, (jfr (jnf (jdr c.2.2.2.2.1 z.2) o.2 z.1) (b.1, b.2.1, b.2.2, none)).2))
  | none => none
/-! loops -/
/-- a constant that is added, where nothing wraps: to what, how much -/
def jad (g : jS) (a : jV) : Option (jV × Int) := match a with
  | .inr s => match xfd g.2.1 s with
    | some q => match q.2.2.2 with
      | some (1, b, .inl (.int c)) => match jbd g b with
        | some p => bif decide (-2147483648 ≤ p.2.1 + c.toInt) && decide (p.2.2 + c.toInt ≤ 2147483647) then some (b, c.toInt) else none
        | none => none
      | some (2, b, .inl (.int c)) => match jbd g b with
        | some p => bif decide (-2147483648 ≤ p.2.1 - c.toInt) && decide (p.2.2 - c.toInt ≤ 2147483647) then some (b, -c.toInt) else none
        | none => none
      | _ => none
    | none => none
  | .inl _ => none
def jof (g : jS) (a : jV) : Option jD := match a with
  | .inr s => match xfd g.2.1 s with
    | some q => q.2.2.2
    | none => none
  | .inl _ => none
/-- v - b is no less than t -/
def jdl : Nat → jS → jV → jV → Int → Bool
  | n, g, v, b, t => (jve v b && decide (t ≤ 0)) || ((match n with
      | 0 => false
      | n + 1 => match jof g v with
        | some (0, a, _) => jdl n g a b t
        | _ => (match jad g v with
          | some z => jdl n g z.1 b (t - z.2)
          | none => false)) || ((match jbd g v, jbd g b with
      | some p, some q => decide (t ≤ p.2.1 - q.2.2)
      | _, _ => false) || ((match n with
      | 0 => false
      | n + 1 => match jad g b with
        | some z => jdl n g v z.1 (t + z.2)
        | none => false) || (match v, b with
      | .inr _, .inr _ => decide (t ≤ 1) && (match jvn g.2.1 (some (23, b, v)) with
        | some z => (match jbd g (.inr z) with
          | some p => decide (p.2.2 ≤ -1)
          | none => false)
        | none => false)
      | _, _ => false))))
/-- v - b is no more than t -/
def jdu : Nat → jS → jV → jV → Int → Bool
  | n, g, v, b, t => (jve v b && decide (0 ≤ t)) || ((match jbd g v, jbd g b with
      | some p, some q => decide (p.2.2 - q.2.1 ≤ t)
      | _, _ => false) || (match n with
      | 0 => false
      | n + 1 => match jof g v with
        | some (6, x, y) => (match jbd g x with | some p => decide (0 ≤ p.2.1) && jdu n g x b t | none => false) || (match jbd g y with | some p => decide (0 ≤ p.2.1) && jdu n g y b t | none => false)
        | _ => (match jad g v with
          | some z => jdu n g z.1 b (t - z.2)
          | none => false)))
/-- where a loop is cut: method, pc; locals and bounds; fields and bounds; what is forgotten; locals forgotten; counts up; which number counts -/
abbrev jA : Type := (Nat × Nat) × List (Nat × Int × Int) × List jFd × List (Nat × Nat) × List Nat × Bool × Nat
/-- a loop that is open: pc, first number, table there, locals, cells kept, bounds of locals, of fields, what fields were; counts up; which -/
abbrev jHd : Type := Nat × Nat × jTb × jL × (jM × jM) × List (Nat × Int × Int) × List jFd × List jV × Bool × Nat
def jhl : Nat → List (Nat × Int × Int) → jL
  | _, [] => []
  | n, q :: l => (q.1, .inr n) :: jhl (n + 1) l
def jht : Nat → List (Nat × Int × Int) → jTb
  | _, [] => []
  | n, q :: l => (n, (0, q.2.1, q.2.2, none)) :: jht (n + 1) l
def jhs (d : jHd) : jS := jnf (d.2.1 + d.2.2.2.2.2.1.length, jht d.2.1 d.2.2.2.2.2.1 ++ d.2.2.1, d.2.2.2.2.1.1, d.2.2.2.2.1.2) d.2.2.2.2.2.2.1 d.2.2.2.2.2.2.2.1
def jhv (d : jHd) : jL := jhl d.2.1 d.2.2.2.2.2.1 ++ d.2.2.2.1
def jsm (g : jS) (a b : jV) : Bool := jve (jnm g a) (jnm g b)
def jop1 (d : jHd) (g : jS) (ls : jL) : Bool :=
  d.2.2.2.2.2.1.all (fun q => match xfd ls q.1 with | some a => jin g a 0 q.2.1 q.2.2 | none => false) &&
  d.2.2.2.1.all (fun q => match xfd ls q.1 with | some a => jsm g a q.2 | none => false) &&
  d.2.2.2.2.1.1.all (fun q => match jmg g.2.2.1 q.1.1 q.1.2 with | some a => jsm g a q.2 | none => false) &&
  d.2.2.2.2.1.2.all (fun q => match jmg g.2.2.2 q.1.1 q.1.2 with | some a => jsm g a q.2 | none => false)
def jop2 (g : jS) : List jFd → List jV → Bool
  | [], [] => true
  | f :: fs, e :: es => (match jmg g.2.2.1 f.1.1 f.1.2 with
    | some a => jin g a 0 f.2.1 f.2.2.1 && (!f.2.2.2 || jin g e 0 (-2147483648) 2147483647 && jdl 12 g a e 0)
    | none => false) && jop2 g fs es
  | _, _ => false
/-- the state fits the loop -/
def jfit (d : jHd) (g : jS) (ls : jL) : Bool := jop1 d g ls && jop2 g d.2.2.2.2.2.2.1 d.2.2.2.2.2.2.2.1
/-- the value that counts -/
def jcv (d : jHd) (g : jS) (ls : jL) : Option jV := match d.2.2.2.2.2.1[d.2.2.2.2.2.2.2.2.2]? with
  | some q => xfd ls q.1
  | none => match d.2.2.2.2.2.2.1[d.2.2.2.2.2.2.2.2.2 - d.2.2.2.2.2.1.length]? with
    | some f => jmg g.2.2.1 f.1.1 f.1.2
    | none => none
def jms (d : jHd) (g : jS) (ls : jL) : Bool := match jcv d g ls with
  | some a => bif d.2.2.2.2.2.2.2.2.1 then jdl 12 g a (.inr (d.2.1 + d.2.2.2.2.2.2.2.2.2)) 1
    else jdu 12 g a (.inr (d.2.1 + d.2.2.2.2.2.2.2.2.2)) (-1)
  | none => false
def jen (G : jGt) (A : jA) (g : jS) (ls : jL) : Option (jHd × jS) := match jfs G g A.2.2.1 with
  | some z => some ((A.1.2, z.2.1, z.2.2.1, ls.filter (fun q => !(A.2.1.any (fun p => Nat.beq p.1 q.1)) && !(A.2.2.2.2.1.any (fun p => Nat.beq p q.1))),
      (z.2.2.2.1.filter (fun q => !jw A.2.2.2.1 q.1.1 q.1.2 && !(A.2.2.1.any (fun f => Nat.beq f.1.1 q.1.1 && Nat.beq f.1.2 q.1.2))), z.2.2.2.2.filter (fun q => !jwr A.2.2.2.1 q.1.1)), A.2.1, A.2.2.1, z.1, A.2.2.2.2.2.1, A.2.2.2.2.2.2), z.2)
  | none => none
/-- environment: cells' bounds, writes, contracts, loops, splits (method, pc, local; 99: top of the stack) -/
abbrev jE : Type := jGt × List (Nat × Nat) × List jC × List jA × List ((Nat × Nat) × Nat)
abbrev jFr : Type := Nat × xQ × Nat × jL × List jV × List jHd
def jan (L : List jA) (m pc : Nat) : Option jA := match L with
  | [] => none
  | a :: l => bif Nat.beq a.1.1 m && Nat.beq a.1.2 pc then some a else jan l m pc
def jsp (L : List ((Nat × Nat) × Nat)) (m pc : Nat) : Option Nat := match L with
  | [] => none
  | a :: l => bif Nat.beq a.1.1 m && Nat.beq a.1.2 pc then some a.2 else jsp l m pc
def jhf (L : List jHd) (pc : Nat) : Option jHd := match L with
  | [] => none
  | a :: l => bif Nat.beq a.1 pc then some a else jhf l pc
def jsv (l : Nat) (ls : jL) (st : List jV) : Option jV := bif Nat.beq l 99 then st.head? else xfd ls l
def jrg : Nat → Int → List Int
  | 0, _ => []
  | n + 1, lo => lo :: jrg n (lo + 1)
/-- the values of a split; none: nothing is to be split -/
def jsl (E : jE) (sk : Bool) (m pc : Nat) (ls : jL) (st : List jV) (g : jS) : Option (jV × List Int) := bif sk then none else match jsp E.2.2.2.2 m pc with
  | some l => match jsv l ls st with
    | some a => match jnm g a with
      | .inr s => match jbd g (.inr s) with
        | some p => some (.inr s, jrg (p.2.2 - p.2.1 + 1).toNat p.2.1)
        | none => none
      | .inl _ => none
    | none => none
  | none => none
def jmt (l : List jV) : Bool := match l with
  | [] => true
  | _ => false
abbrev jRc : Type := Bool → Nat → List jFr → List jHd → Nat → xQ → Nat → jL → List jV → jS → Bool
def jxb (E : jE) (bot : jS → Option jV → Bool) (rc : jRc) (sk : Bool) (dd : Nat) (fr : List jFr) (cx : List jHd) (m : Nat) (q : xQ) (pc : Nat) (ls : jL) (st : List jV) (g : jS) : Bool :=
  match (bif sk then none else jan E.2.2.2.1 m pc) with
    | some A => jmt st && (match jhf cx pc with
      | some d => jfit d g ls && jms d g ls
      | none => match jen E.1 A g ls with
        | some z => (jfit z.1 z.2 ls && (jcv z.1 z.2 ls).isSome) && rc true dd fr (z.1 :: cx) m q pc (jhv z.1) [] (jhs z.1)
        | none => false)
    | none => match jsl E sk m pc ls st g with
      | some z => z.2.all fun k => match jcut 4 g z.1 k k with
        | some g2 => rc true dd fr cx m q pc ls st g2
        | none => true
      | none => match xcg q.2.2.2.2 pc with
        | none => false
        | some i => match jx1 q.1 q.2.1 i ls st g with
          | some z => rc false dd fr cx m q (pc + xil i) z.1 z.2.1 z.2.2
          | none => match jbr i pc st g with
            | some l => l.all fun t => rc false dd fr cx m q t.1 ls t.2.1 t.2.2
            | none => match jho E.1 E.2.1 q.1 i st g with
              | some z => rc false dd fr cx m q (pc + xil i) ls z.1 z.2
              | none => match jrt q.2.2.2.1 i st g with
                | some rv => (match fr with
                  | [] => bot g rv
                  | f :: fr => rc false (dd + 1) fr f.2.2.2.2.2 f.1 f.2.1 f.2.2.1 f.2.2.2.1 (rv.toList ++ f.2.2.2.2.1) g)
                | none => match dd with
                  | 0 => false
                  | dd + 1 => match jmm q.1 i st g with
                    | some z => Nat.ble (jcs g (z.1.drop 1)) 7 && rc false (dd + 1) fr cx m q (pc + 3) ls z.1 z.2
                    | none => match jay E.1 E.2.1 q.1 i st g with
                      | some z => Nat.ble (jcs g z.1) 8 && rc false (dd + 1) fr cx m q (pc + 3) ls z.1 z.2
                      | none => match jca E.1 q.1 i st with
                        | none => false
                        | some (y, as, rest) => match xM[y]? with
                          | none => false
                          | some q' => Nat.ble (jcs g rest) 8 && Nat.ble (jcs g as) q'.2.1 && (match jcf E.1 g y as E.2.2.1 with
                            | some c => Nat.ble c.2.1 dd && c.2.2.2.2.1.all (fun w => bif Nat.beq w.2 9999 then jwa E.2.1 w.1 else jw E.2.1 w.1 w.2) && c.2.2.2.2.2.all (fun o => match jco E.1 g c o with
                              | some z => rc false (dd + 1) fr cx m q (pc + 3) ls (z.1.toList ++ rest) z.2
                              | none => false)
                            | none => jkw g as && rc false dd ((m, q, pc + 3, ls, rest, cx) :: fr) [] y q' 0 (jlv g 0 as) [] g)
/-- work out a list's places, a number, before going on -/
def jf1 {α : Type} : List α → (List α → Bool) → Bool
  | [], k => k []
  | a :: l, k => jf1 l fun l => k (a :: l)
def jfn (n : Nat) (k : Nat → Bool) : Bool := match n with
  | 0 => k 0
  | n + 1 => k (n + 1)
theorem jf1_eq {α : Type} : ∀ (l : List α) (k : List α → Bool), jf1 l k = k l
  | [], _ => rfl
  | a :: l, k => by unfold jf1; rw [jf1_eq l]
theorem jfn_eq (n : Nat) (k : Nat → Bool) : jfn n k = k n := by cases n <;> rfl
def jx (E : jE) (bot : jS → Option jV → Bool) : Nat → jRc
  | 0 => fun _ _ _ _ _ _ _ _ _ _ => false
  | n + 1 => fun sk dd fr cx m q pc ls st g => jfn pc fun pc => jf1 ls fun ls => jf1 st fun st => jfn g.1 fun x => jf1 g.2.1 fun tb => jf1 g.2.2.1 fun mf => jf1 g.2.2.2 fun ml => jxb E bot (jx E bot n) sk dd fr cx m q pc ls st (x, tb, mf, ml)
theorem jx_succ (E : jE) (bot : jS → Option jV → Bool) (n : Nat) (sk : Bool) (dd : Nat) (fr : List jFr) (cx : List jHd) (m : Nat) (q : xQ) (pc : Nat) (ls : jL) (st : List jV) (g : jS) : jx E bot (n + 1) sk dd fr cx m q pc ls st g = jxb E bot (jx E bot n) sk dd fr cx m q pc ls st g := by
  rw [jx]
  simp only [jfn_eq, jf1_eq]
end
section
/-- what every cell is kept within -/
def jGG : jGt := [[(11, .inl [.inl (.ref 1), .inl (.ref 7), .inr (0, 1), .inr (0, 7), .inl (.ref 13), .inl (.ref 20), .inl (.ref 25), .inl (.ref 32), .inl (.ref 34), .inl (.ref 44), .inl (.ref 49), .inl (.ref 52), .inl (.ref 57), .inl (.ref 60)]), (5, .inl [.inl (.ref 2), .inl (.ref 3), .inl (.ref 4), .inl (.ref 5), .inl (.ref 6), .inr (0, 10)]), (100, .inr (7, (-1), 5)), (100, .inr (210, (-1), 4)), (100, .inr (10, 0, 29)), (100, .inr (10, 0, 4)), (100, .inr (10, 0, 63)), (5, .inl [.inl (.ref 8), .inl (.ref 9), .inl (.ref 10), .inl (.ref 11), .inl (.ref 12), .inr (0, 10)]), (100, .inr (7, (-1), 5)), (100, .inr (210, (-1), 4)), (100, .inr (10, 0, 29)), (100, .inr (10, 0, 4)), (100, .inr (10, 0, 63)), (1, .inl [.inl (.ref 1), .inl (.ref 14), .inl (.ref 15), .inl (.ref 16), .inl (.ref 17), .inl (.ref 18), .inl (.ref 19), .inr (0, 7), .inr (0, 63), .inr (0, 63)]), (100, .inr (7, 0, 63)), (100, .inr (7, 0, 63))],
  [(100, .inr (7, 0, 63)), (100, .inr (7, 0, 4)), (100, .inr (28, 0, 4)), (100, .inr (28, 0, 6)), (3, .inl [.inl (.ref 21), .inl (.ref 22), .inr (0, 128), .inl (.ref 23), .inr (0, 128), .inl (.ref 24)]), (100, .inr (128, 0, 255)), (100, .inr (128, 0, 9999)), (100, .inr (128, (-2147483648), 2147483647)), (100, .inr (6, (-2147483648), 2147483647)), (8, .inl [.inl (.ref 26), .inl (.ref 31), .inr (0, 120), .inr (0, 120)]), (3, .inl [.inl (.ref 27), .inl (.ref 28), .inr (0, 128), .inl (.ref 29), .inr (0, 128), .inl (.ref 30)]), (100, .inr (128, 0, 255)), (100, .inr (128, 0, 9999)), (100, .inr (128, (-2147483648), 2147483647)), (100, .inr (6, (-2147483648), 2147483647)), (100, .inr (120, 0, 255))],
  [(4, .inl [.inl (.ref 13), .inl (.ref 20), .inl (.ref 33)]), (100, .inr (7, (-2147483648), 2147483647)), (2, .inl [.inl (.ref 13), .inl (.ref 32), .inl (.ref 35), .inl (.ref 36), .inl (.ref 37), .inl (.ref 38), .inl (.ref 39), .inl (.ref 40), .inl (.ref 41), .inr ((-2147483648), 2147483647), .inl (.ref 42), .inl (.ref 43), .inr (0, 7)]), (100, .inr (35, (-2147483648), 2147483647)), (100, .inr (7, (-2147483648), 2147483647)), (100, .inr (7, (-2147483648), 2147483647)), (100, .inr (7, (-2147483648), 2147483647)), (101, .inr (7, 0, 1)), (100, .inr (7, (-2147483648), 2147483647)), (100, .inr (7, (-2147483648), 2147483647)), (100, .inr (7, (-2147483648), 2147483647)), (100, .inr (7, (-2147483648), 2147483647)), (10, .inl [.inl (.ref 13), .inl (.ref 32), .inl (.ref 45), .inl (.ref 46), .inl (.ref 47), .inl (.ref 48), .inr ((-2147483648), 2147483647)]), (100, .inr (343, (-2147483648), 2147483647)), (100, .inr (56, (-2147483648), 2147483647)), (100, .inr (7, (-2147483648), 2147483647))],
  [(100, .inr (7, (-2147483648), 2147483647)), (7, .inl [.inl (.ref 1), .inl (.ref 13), .inl (.ref 32), .inl (.ref 50), .inl (.ref 51), .inr ((-2147483648), 2147483647)]), (100, .inr (10, (-2147483648), 2147483647)), (100, .inr (10, (-2147483648), 2147483647)), (0, .inl [.inl (.ref 13), .inl (.ref 53), .inl (.ref 54), .inl (.ref 55), .inl (.ref 56), .inr (0, 40), .inr (0, 40)]), (100, .inr (40, 0, 6)), (100, .inr (40, 0, 4)), (100, .inr (40, 0, 63)), (100, .inr (40, 0, 63)), (9, .inl [.inl (.ref 58), .inr (0, 50), .inl (.ref 59), .inr (0, 2000), .inr (0, 49)]), (100, .inr (50, 0, 7)), (100, .inr (24, 0, 81)), (6, .inl [.inl (.ref 61), .inl (.ref 62), .inl (.ref 63), .inl (.ref 64), .inl (.ref 65)]), (100, .inr (6, 0, 2)), (100, .inr (6, (-1), 49)), (100, .inr (6, 0, 4))],
  [(100, .inr (6, 0, 60)), (102, .inr (360, (-9223372036854775808), 9223372036854775807)), (12, .inl [.inl (.ref 67), .inl (.ref 68), .inl (.ref 69), .inl (.ref 70), .inr (0, 40), .inr (0, 40), .inr (0, 7), .inl (.ref 71), .inl (.ref 72), .inl (.ref 73), .inl (.ref 74), .inl (.ref 75), .inr (0, 120), .inl (.ref 76), .inr ((-1), 120), .inr ((-1), 0), .inr (0, 120), .inr (0, 120), .inr ((-1), 120), .inr (0, 6), .inl (.ref 77), .inl (.ref 78), .inl (.ref 79), .inl (.ref 80), .inl (.ref 81), .inr ((-2147483648), 2147483647), .inl (.ref 82), .inl (.ref 83), .inl (.ref 84), .inl (.ref 85), .inr ((-2147483648), 2147483647), .inl (.ref 86), .inl (.ref 87), .inl (.ref 88), .inr (0, 10), .inl (.ref 89), .inl (.ref 90), .inl (.ref 91), .inr (0, 1), .inr (0, 7), .inr (0, 10), .inl (.ref 92), .inl (.ref 93), .inl (.ref 94), .inr (0, 50), .inl (.ref 95), .inl (.ref 96), .inr (0, 2000), .inr (0, 7), .inr (0, 49), .inl (.ref 97), .inl (.ref 98), .inl (.ref 99), .inl (.ref 100)]), (100, .inr (23, 0, 63)), (100, .inr (40, 0, 22)), (100, .inr (40, 0, 63)), (100, .inr (40, 0, 63)), (100, .inr (7, (-1), 5)), (100, .inr (7, 0, 4)), (100, .inr (28, 0, 4)), (100, .inr (28, 0, 6)), (100, .inr (120, 0, 255)), (100, .inr (120, 0, 255)), (100, .inr (6, (-2147483648), 2147483647)), (100, .inr (7, 0, 127)), (100, .inr (210, (-2147483648), 2147483647))],
  [(101, .inr (7, 0, 1)), (100, .inr (7, (-2147483648), 2147483647)), (100, .inr (7, (-2147483648), 2147483647)), (100, .inr (7, (-2147483648), 2147483647)), (100, .inr (7, (-2147483648), 2147483647)), (100, .inr (7, (-2147483648), 2147483647)), (101, .inr (2401, 0, 1)), (100, .inr (7, 0, 6)), (100, .inr (210, (-1), 4)), (100, .inr (30, 0, 63)), (100, .inr (10, (-2147483648), 2147483647)), (100, .inr (1024, (-2147483648), 2147483647)), (100, .inr (7, (-1), 5)), (100, .inr (210, (-1), 4)), (100, .inr (30, 0, 63)), (100, .inr (50, 0, 7))],
  [(100, .inr (24, 0, 81)), (100, .inr (6, (-1), 54)), (100, .inr (6, 0, 60)), (102, .inr (360, (-9223372036854775808), 9223372036854775807)), (102, .inr (60, (-9223372036854775808), 9223372036854775807))]]
end
section
/-! the bounded machine is sound: values, bounds, numbers -/
def jI (k : Nat) (lo hi : Int) (v : Value) : Prop := jk v = k ∧ lo ≤ jz v ∧ jz v ≤ hi
def jDf (r : jP) (d : Option jD) (v : Value) : Prop := match d with
  | none => True
  | some d => ∃ x y, jR r d.2.1 x ∧ jR r d.2.2 y ∧ ((d.1 = 0 → jk x = jk v ∧ jz x ≤ jz v) ∧ (d.1 ≠ 0 → jop d.1 x y = some v ∧ jk x = (jkd d.1).1 ∧ jk y = (jkd d.1).2.1))
def jRw (r : jP) (s : Nat) (q : jRow) : Prop := ∃ v, r[s]? = some (.inl v) ∧ jI q.1 q.2.1 q.2.2.1 v ∧ jDf r q.2.2.2 v
def jT (r : jP) (tb : jTb) : Prop := ∀ q ∈ tb, jRw r q.1 q.2
def jC1 (r : jP) (h : xH) (e : (Nat × Nat) × jV) : Prop := ∃ c v, h[e.1.1]? = some c ∧ c.2[e.1.2]? = some v ∧ jR r e.2 v
def jC2 (r : jP) (h : xH) (e : (Nat × Nat) × jV) : Prop := ∃ (c : xE) (j : Int32) (v : Value), h[e.1.1]? = some c ∧ r[e.1.2]? = some (.inl (.int j)) ∧ 0 ≤ j.toInt ∧ c.2[j.toNatClampNeg]? = some v ∧ jR r e.2 v
def gFd (b : Value ⊕ (Int × Int)) (v : Value) : Prop := match b with
  | .inl w => v = w
  | .inr p => jI 0 p.1 p.2 v
def gOk (g : jG1) (c : xE) : Prop := c.1 = g.1 ∧ match g.2 with
  | .inl fs => c.2.length = fs.length ∧ ∀ (k : Nat) (b : Value ⊕ (Int × Int)), fs[k]? = some b → ∃ v, c.2[k]? = some v ∧ gFd b v
  | .inr p => c.2.length = p.1 ∧ ∀ v ∈ c.2, jI (if g.1 = 102 then 1 else 0) p.2.1 p.2.2 v
def GH (G : jGt) (h : xH) : Prop := ∀ r g, jgc G r = some g → ∃ c, h[r]? = some c ∧ gOk g c
def jSt (G : jGt) (r : jP) (g : jS) (h : xH) : Prop := g.1 = r.length ∧ jT r g.2.1 ∧ (∀ e ∈ g.2.2.1, jC1 r h e) ∧ (∀ e ∈ g.2.2.2, jC2 r h e) ∧ GH G h
def jLe (r r' : jP) : Prop := ∃ t, r' = r ++ t
theorem jLe.refl (r : jP) : jLe r r := ⟨[], by simp⟩
theorem jLe.trans {a b c : jP} (h : jLe a b) (k : jLe b c) : jLe a c := by
  obtain ⟨t, rfl⟩ := h
  obtain ⟨u, rfl⟩ := k
  exact ⟨t ++ u, by simp⟩
theorem jLe.get {r r' : jP} (h : jLe r r') {s : Nat} {x : Value ⊕ List Value} (e : r[s]? = some x) : r'[s]? = some x := by
  obtain ⟨t, rfl⟩ := h
  rw [List.getElem?_append_left (List.getElem?_eq_some_iff.mp e).1]
  exact e
theorem jLe.back {r r' : jP} (h : jLe r r') {s : Nat} (hs : s < r.length) : r'[s]? = r[s]? := by
  obtain ⟨t, rfl⟩ := h
  rw [List.getElem?_append_left hs]
theorem jR.mono {r r' : jP} (h : jLe r r') {a : jV} {v : Value} (e : jR r a v) : jR r' a v := by
  cases a with
  | inl w => exact e
  | inr s => exact h.get e
theorem jR.one {r : jP} {a : jV} {v w : Value} (h : jR r a v) (k : jR r a w) : v = w := by
  cases a with
  | inl u => exact Eq.trans h (Eq.symm k)
  | inr s =>
    have h : r[s]? = some (.inl v) := h
    have k : r[s]? = some (.inl w) := k
    rw [h] at k
    cases k
    rfl
theorem jDf.mono {r r' : jP} (h : jLe r r') {d : Option jD} {v : Value} (e : jDf r d v) : jDf r' d v := by
  cases d with
  | none => trivial
  | some d =>
    obtain ⟨x, y, h1, h2, h3⟩ := e
    exact ⟨x, y, h1.mono h, h2.mono h, h3⟩
theorem jRw.mono {r r' : jP} (h : jLe r r') {s : Nat} {q : jRow} (e : jRw r s q) : jRw r' s q := by
  obtain ⟨v, h1, h2, h3⟩ := e
  exact ⟨v, h.get h1, h2, h3.mono h⟩
theorem jT.mono {r r' : jP} (h : jLe r r') {tb : jTb} (e : jT r tb) : jT r' tb := fun q hq => (e q hq).mono h
theorem jC1.mono {r r' : jP} (h : jLe r r') {p : xH} {e : (Nat × Nat) × jV} (k : jC1 r p e) : jC1 r' p e := by
  obtain ⟨c, v, h1, h2, h3⟩ := k
  exact ⟨c, v, h1, h2, h3.mono h⟩
theorem jC2.mono {r r' : jP} (h : jLe r r') {p : xH} {e : (Nat × Nat) × jV} (k : jC2 r p e) : jC2 r' p e := by
  obtain ⟨c, j, v, h1, h2, h3, h4, h5⟩ := k
  exact ⟨c, j, v, h1, h.get h2, h3, h4, h5.mono h⟩
theorem xfd_in {α : Type} : ∀ {l : List (Nat × α)} {k : Nat} {v : α}, xfd l k = some v → (k, v) ∈ l
  | [], k, v, h => by cases h
  | q :: l, k, v, h => by
    unfold xfd at h
    cases hb : Nat.beq q.1 k with
    | true =>
      rw [hb] at h
      cases h
      have := Nat.eq_of_beq_eq_true hb
      subst this
      exact List.mem_cons_self
    | false => rw [hb] at h; exact List.mem_cons_of_mem _ (xfd_in h)
theorem jrow_of {r : jP} {g : jS} (h : jT r g.2.1) {s : Nat} {q : jRow} (e : xfd g.2.1 s = some q) : jRw r s q := h _ (xfd_in e)
theorem jI.int {lo hi : Int} {v : Value} (h : jI 0 lo hi v) : ∃ x : Int32, v = .int x ∧ lo ≤ x.toInt ∧ x.toInt ≤ hi := by
  obtain ⟨h1, h2, h3⟩ := h
  cases v <;> simp only [jk] at h1 <;> first | (exact ⟨_, rfl, h2, h3⟩) | (cases h1; done)
theorem jI.long {lo hi : Int} {v : Value} (h : jI 1 lo hi v) : ∃ x : Int64, v = .long x ∧ lo ≤ x.toInt ∧ x.toInt ≤ hi := by
  obtain ⟨h1, h2, h3⟩ := h
  cases v <;> simp only [jk] at h1 <;> first | (exact ⟨_, rfl, h2, h3⟩) | (cases h1; done)
theorem j32 (x : Int32) : -2147483648 ≤ x.toInt ∧ x.toInt ≤ 2147483647 := ⟨Int32.le_toInt x, by have := Int32.toInt_lt x; omega⟩
theorem j64 (x : Int64) : -9223372036854775808 ≤ x.toInt ∧ x.toInt ≤ 9223372036854775807 := ⟨Int64.le_toInt x, by have := Int64.toInt_lt x; omega⟩
theorem jbd_ok {r : jP} {g : jS} (h : jT r g.2.1) {a : jV} {p : Nat × Int × Int} {v : Value} (e : jbd g a = some p) (k : jR r a v) : jI p.1 p.2.1 p.2.2 v := by
  unfold jbd at e
  split at e
  next x => cases e; cases k; exact ⟨rfl, Int.le_refl _, Int.le_refl _⟩
  next x => cases e; cases k; exact ⟨rfl, Int.le_refl _, Int.le_refl _⟩
  next => cases e
  next s =>
    obtain ⟨q, e1, e2⟩ := xmap e
    subst e2
    obtain ⟨w, h1, h2, h3⟩ := jrow_of h e1
    cases jR.one k (show jR r (.inr s) w from h1)
    exact h2
theorem jnm_ok {r : jP} {g : jS} (h : jT r g.2.1) {a : jV} {v : Value} (k : jR r a v) : jR r (jnm g a) v := by
  cases a with
  | inl w => exact k
  | inr s =>
    unfold jnm
    dsimp only
    split
    next q e =>
      cases hb : (Nat.beq q.1 0 && decide (q.2.1 = q.2.2.1)) with
      | false => exact k
      | true =>
        simp only [Bool.and_eq_true, decide_eq_true_eq] at hb
        obtain ⟨w, h1, h2, h3⟩ := jrow_of h e
        cases jR.one k (show jR r (.inr s) w from h1)
        rw [Nat.eq_of_beq_eq_true hb.1] at h2
        obtain ⟨x, rfl, x1, x2⟩ := h2.int
        show Value.int x = Value.int (Int32.ofInt q.2.1)
        rw [show q.2.1 = x.toInt by omega, Int32.ofInt_toInt]
    next => exact k
theorem jin_ok {r : jP} {g : jS} (h : jT r g.2.1) {a : jV} {k : Nat} {lo hi : Int} {v : Value} (e : jin g a k lo hi = true) (c : jR r a v) : jI k lo hi v := by
  unfold jin at e
  split at e
  next p hp =>
    simp only [Bool.and_eq_true, decide_eq_true_eq] at e
    obtain ⟨h1, h2, h3⟩ := jbd_ok h hp c
    exact ⟨h1.trans (Nat.eq_of_beq_eq_true e.1.1), by omega, by omega⟩
  next => cases e
theorem jve_ok {a b : jV} (h : jve a b = true) : a = b := by
  unfold jve at h
  split at h
  next => rw [Nat.eq_of_beq_eq_true h]
  next => rw [eq_of_beq h]
  next => rw [eq_of_beq h]
  next => rw [show (_ : Nat) = _ from Nat.eq_of_beq_eq_true h]
  next => rw [Nat.eq_of_beq_eq_true h]
  next => cases h
theorem jcat_le {r : jP} {g : jS} (h : jT r g.2.1) {a : jV} {v : Value} (k : jR r a v) : v.category ≤ jcat g a := by
  cases a with
  | inl w => cases k; exact Nat.le_refl _
  | inr s =>
    have h2 : ∀ v : Value, v.category ≤ 2 := fun v => by cases v <;> exact Nat.le_of_ble_eq_true rfl
    unfold jcat
    dsimp only
    split
    next q e =>
      cases hb : Nat.beq q.1 0 with
      | false => exact h2 v
      | true =>
        obtain ⟨w, h1, h3, -⟩ := jrow_of h e
        cases jR.one k (show jR r (.inr s) w from h1)
        rw [Nat.eq_of_beq_eq_true hb] at h3
        obtain ⟨x, rfl, -⟩ := h3.int
        exact Nat.le_refl _
    next => exact h2 v
theorem jcat_1 {r : jP} {g : jS} (h : jT r g.2.1) {a : jV} {v : Value} (k : jR r a v) (e : Nat.beq (jcat g a) 1 = true) : v.category = 1 := by
  have h1 := jcat_le h k
  rw [Nat.eq_of_beq_eq_true e] at h1
  cases v <;> first | rfl | (exact absurd h1 (fun h => by cases h with | step h => cases h))
theorem jfr_ok {G : jGt} {r : jP} {g : jS} {p : xH} (h : jSt G r g p) {q : jRow} {v : Value} (h1 : jI q.1 q.2.1 q.2.2.1 v) (h2 : jDf r q.2.2.2 v) :
    jLe r (r ++ [.inl v]) ∧ jSt G (r ++ [.inl v]) (jfr g q).2 p ∧ jR (r ++ [.inl v]) (jfr g q).1 v := by
  have hl : jLe r (r ++ [.inl v]) := ⟨_, rfl⟩
  have hv : (r ++ [.inl v])[r.length]? = some (.inl v) := by simp
  obtain ⟨a1, a2, a3, a4, a5⟩ := h
  refine ⟨hl, ⟨?_, ?_, fun e he => (a3 e he).mono hl, fun e he => (a4 e he).mono hl, a5⟩, ?_⟩
  · show g.1 + 1 = _
    rw [a1]; simp
  · intro e he
    rcases List.mem_cons.mp he with rfl | he
    · refine ⟨v, ?_, h1, h2.mono hl⟩
      show (r ++ [Sum.inl v])[g.1]? = _
      rw [a1]; exact hv
    · exact (a2 e he).mono hl
  · show (r ++ [Sum.inl v])[g.1]? = _
    rw [a1]; exact hv
/-! what an operation gives lies within -/
theorem jmi_le (a b x : Int) (h1 : x ≤ a) (h2 : x ≤ b) : x ≤ jmi a b := by
  unfold jmi
  cases h : decide (a ≤ b) with
  | true => exact h1
  | false => exact h2
theorem jmi_1 (a b : Int) : jmi a b ≤ a := by
  unfold jmi
  cases h : decide (a ≤ b) with
  | true => exact Int.le_refl _
  | false => have := of_decide_eq_false h; show b ≤ a; omega
theorem jmi_2 (a b : Int) : jmi a b ≤ b := by
  unfold jmi
  cases h : decide (a ≤ b) with
  | true => exact of_decide_eq_true h
  | false => exact Int.le_refl _
theorem jma_le (a b x : Int) (h1 : a ≤ x) (h2 : b ≤ x) : jma a b ≤ x := by
  unfold jma
  cases h : decide (a ≤ b) with
  | true => exact h2
  | false => exact h1
theorem jma_1 (a b : Int) : a ≤ jma a b := by
  unfold jma
  cases h : decide (a ≤ b) with
  | true => exact of_decide_eq_true h
  | false => exact Int.le_refl _
theorem jma_2 (a b : Int) : b ≤ jma a b := by
  unfold jma
  cases h : decide (a ≤ b) with
  | true => exact Int.le_refl _
  | false => have := of_decide_eq_false h; show b ≤ a; omega
theorem jF_ok (x : Int32) : jI 0 jF.1 jF.2 (.int x) := ⟨rfl, (j32 x).1, (j32 x).2⟩
theorem jft_ok {l h e : Int} {x : Int32} (hx : x.toInt = e.bmod (2 ^ 32)) (h1 : l ≤ e) (h2 : e ≤ h) : jI 0 (jft l h).1 (jft l h).2 (.int x) := by
  unfold jft
  cases hb : (decide (-2147483648 ≤ l) && decide (h ≤ 2147483647)) with
  | false => exact jF_ok x
  | true =>
    simp only [Bool.and_eq_true, decide_eq_true_eq] at hb
    have : e.bmod (2 ^ 32) = e := Int.bmod_eq_of_le (by omega) (by omega)
    rw [this] at hx
    exact ⟨rfl, by show l ≤ x.toInt; omega, by show x.toInt ≤ h; omega⟩
theorem jnn {x : Int32} (h : 0 ≤ x.toInt) : x.toInt = (x.toBitVec.toNat : Int) ∧ x.toBitVec.toNat < 2147483648 := by
  have h1 : x.toInt = x.toBitVec.toInt := rfl
  rw [h1] at h ⊢
  rw [BitVec.toInt_eq_toNat_cond] at h ⊢
  have h2 := x.toBitVec.isLt
  split at h
  next hc => rw [if_pos hc]; exact ⟨rfl, by omega⟩
  next hc => omega
theorem jnb {x : Int32} (h : x.toBitVec.toNat < 2147483648) : x.toInt = (x.toBitVec.toNat : Int) := by
  have h1 : x.toInt = x.toBitVec.toInt := rfl
  rw [h1, BitVec.toInt_eq_toNat_cond, if_pos (by omega)]
theorem jand_1 {x y : Int32} (h : 0 ≤ x.toInt) : 0 ≤ (x &&& y).toInt ∧ (x &&& y).toInt ≤ x.toInt := by
  obtain ⟨h1, h2⟩ := jnn h
  have h3 : (x &&& y).toBitVec.toNat ≤ x.toBitVec.toNat := by
    rw [Int32.toBitVec_and, BitVec.toNat_and]
    exact Nat.and_le_left
  have h4 := jnb (x := x &&& y) (by omega)
  omega
theorem jand_2 {x y : Int32} (h : 0 ≤ y.toInt) : 0 ≤ (x &&& y).toInt ∧ (x &&& y).toInt ≤ y.toInt := by
  obtain ⟨h1, h2⟩ := jnn h
  have h3 : (x &&& y).toBitVec.toNat ≤ y.toBitVec.toNat := by
    rw [Int32.toBitVec_and, BitVec.toNat_and]
    exact Nat.and_le_right
  have h4 := jnb (x := x &&& y) (by omega)
  omega
theorem jpw_ok {h m : Int} (e : jpw h = some m) : h ≤ m ∧ ∃ k : Nat, k ≤ 10 ∧ m = 2 ^ k - 1 := by
  unfold jpw at e
  cases h0 : decide (h ≤ 1) with
  | true => rw [h0] at e; cases e; exact ⟨of_decide_eq_true h0, 1, by decide, by decide⟩
  | false =>
  rw [h0, cond_false] at e
  cases h1 : decide (h ≤ 3) with
  | true => rw [h1] at e; cases e; exact ⟨of_decide_eq_true h1, 2, by decide, by decide⟩
  | false =>
  rw [h1, cond_false] at e
  cases h2 : decide (h ≤ 7) with
  | true => rw [h2] at e; cases e; exact ⟨of_decide_eq_true h2, 3, by decide, by decide⟩
  | false =>
  rw [h2, cond_false] at e
  cases h3 : decide (h ≤ 15) with
  | true => rw [h3] at e; cases e; exact ⟨of_decide_eq_true h3, 4, by decide, by decide⟩
  | false =>
  rw [h3, cond_false] at e
  cases h4 : decide (h ≤ 31) with
  | true => rw [h4] at e; cases e; exact ⟨of_decide_eq_true h4, 5, by decide, by decide⟩
  | false =>
  rw [h4, cond_false] at e
  cases h5 : decide (h ≤ 63) with
  | true => rw [h5] at e; cases e; exact ⟨of_decide_eq_true h5, 6, by decide, by decide⟩
  | false =>
  rw [h5, cond_false] at e
  cases h6 : decide (h ≤ 127) with
  | true => rw [h6] at e; cases e; exact ⟨of_decide_eq_true h6, 7, by decide, by decide⟩
  | false =>
  rw [h6, cond_false] at e
  cases h7 : decide (h ≤ 255) with
  | true => rw [h7] at e; cases e; exact ⟨of_decide_eq_true h7, 8, by decide, by decide⟩
  | false =>
  rw [h7, cond_false] at e
  cases h8 : decide (h ≤ 511) with
  | true => rw [h8] at e; cases e; exact ⟨of_decide_eq_true h8, 9, by decide, by decide⟩
  | false =>
  rw [h8, cond_false] at e
  cases h9 : decide (h ≤ 1023) with
  | true => rw [h9] at e; cases e; exact ⟨of_decide_eq_true h9, 10, by decide, by decide⟩
  | false => rw [h9] at e; cases e
theorem jpw_nat {x : Int32} {m : Int} {k : Nat} (hk : k ≤ 10) (hm : m = 2 ^ k - 1) (h0 : 0 ≤ x.toInt) (h1 : x.toInt ≤ m) : x.toBitVec.toNat < 2 ^ k := by
  have h2 := (jnn h0).1
  have h3 : ((2 ^ k : Nat) : Int) = (2 : Int) ^ k := by simp
  omega
theorem jpw_nat2 {x : Int32} {m : Int} {k : Nat} (hk : k ≤ 10) (hm : m = 2 ^ k - 1) (h : x.toBitVec.toNat < 2 ^ k) : 0 ≤ x.toInt ∧ x.toInt ≤ m := by
  have h4 : 2 ^ k ≤ 2 ^ 10 := Nat.pow_le_pow_right (by decide) hk
  have h2 := jnb (x := x) (by have : (2 : Nat) ^ 10 = 1024 := by decide
                              omega)
  have h3 : ((2 ^ k : Nat) : Int) = (2 : Int) ^ k := by simp
  omega
theorem jor_ok {x y : Int32} {m : Int} {k : Nat} (hk : k ≤ 10) (hm : m = 2 ^ k - 1) (h0 : 0 ≤ x.toInt) (h1 : x.toInt ≤ m) (h2 : 0 ≤ y.toInt) (h3 : y.toInt ≤ m) : 0 ≤ (x ||| y).toInt ∧ (x ||| y).toInt ≤ m := by
  refine jpw_nat2 hk hm ?_
  rw [Int32.toBitVec_or, BitVec.toNat_or]
  exact Nat.or_lt_two_pow (jpw_nat hk hm h0 h1) (jpw_nat hk hm h2 h3)
theorem jxor_ok {x y : Int32} {m : Int} {k : Nat} (hk : k ≤ 10) (hm : m = 2 ^ k - 1) (h0 : 0 ≤ x.toInt) (h1 : x.toInt ≤ m) (h2 : 0 ≤ y.toInt) (h3 : y.toInt ≤ m) : 0 ≤ (x ^^^ y).toInt ∧ (x ^^^ y).toInt ≤ m := by
  refine jpw_nat2 hk hm ?_
  rw [Int32.toBitVec_xor, BitVec.toNat_xor]
  exact Nat.xor_lt_two_pow (jpw_nat hk hm h0 h1) (jpw_nat hk hm h2 h3)
theorem jshl_k (x : Int32) : ∀ k : Nat, k < 31 → (x <<< (Int32.ofNat k &&& 31)).toBitVec = x.toBitVec <<< k := by
  intro k hk
  match k, hk with
  | 0, _ => rfl
  | 1, _ => rfl
  | 2, _ => rfl
  | 3, _ => rfl
  | 4, _ => rfl
  | 5, _ => rfl
  | 6, _ => rfl
  | 7, _ => rfl
  | 8, _ => rfl
  | 9, _ => rfl
  | 10, _ => rfl
  | 11, _ => rfl
  | 12, _ => rfl
  | 13, _ => rfl
  | 14, _ => rfl
  | 15, _ => rfl
  | 16, _ => rfl
  | 17, _ => rfl
  | 18, _ => rfl
  | 19, _ => rfl
  | 20, _ => rfl
  | 21, _ => rfl
  | 22, _ => rfl
  | 23, _ => rfl
  | 24, _ => rfl
  | 25, _ => rfl
  | 26, _ => rfl
  | 27, _ => rfl
  | 28, _ => rfl
  | 29, _ => rfl
  | 30, _ => rfl
  | n + 31, h => exact absurd h (by omega)
theorem jshl_ok {x y : Int32} {al ah bl bh : Int} (h1 : 0 ≤ al) (h2 : 0 ≤ bl) (h3 : bh ≤ 30) (h4 : ah * 2 ^ bh.toNat ≤ 2147483647) (x1 : al ≤ x.toInt) (x2 : x.toInt ≤ ah) (y1 : bl ≤ y.toInt) (y2 : y.toInt ≤ bh) :
    al * 2 ^ bl.toNat ≤ (x <<< (y &&& 31)).toInt ∧ (x <<< (y &&& 31)).toInt ≤ ah * 2 ^ bh.toNat := by
  obtain ⟨k, hk⟩ : ∃ k : Nat, y.toInt = (k : Int) := ⟨y.toInt.toNat, by omega⟩
  have hk31 : k < 31 := by omega
  have hy : y = Int32.ofNat k := by
    apply Int32.toInt_inj.mp
    rw [hk, Int32.toInt_ofNat_of_lt (by omega)]
  obtain ⟨n1, n2⟩ := jnn (x := x) (by omega)
  have p1 : (2 : Int) ^ bl.toNat ≤ 2 ^ k := by exact_mod_cast Nat.pow_le_pow_right (by decide) (show bl.toNat ≤ k by omega)
  have p2 : (2 : Int) ^ k ≤ 2 ^ bh.toNat := by exact_mod_cast Nat.pow_le_pow_right (by decide) (show k ≤ bh.toNat by omega)
  have p0 : (0 : Int) ≤ 2 ^ bl.toNat := by exact_mod_cast Nat.zero_le _
  have p3 : (0 : Int) ≤ 2 ^ k := by exact_mod_cast Nat.zero_le _
  have q1 : al * 2 ^ bl.toNat ≤ x.toInt * 2 ^ k := Int.mul_le_mul x1 p1 p0 (by omega)
  have q2 : x.toInt * 2 ^ k ≤ ah * 2 ^ bh.toNat := Int.mul_le_mul x2 p2 p3 (by omega)
  have e0 : ((x.toBitVec.toNat * 2 ^ k : Nat) : Int) = x.toInt * 2 ^ k := by rw [n1]; push_cast; rfl
  have e1 : (x <<< (y &&& 31)).toBitVec.toNat = x.toBitVec.toNat * 2 ^ k := by
    rw [hy, jshl_k x k hk31, BitVec.toNat_shiftLeft, Nat.shiftLeft_eq, Nat.mod_eq_of_lt (by omega)]
  have e2 := jnb (x := x <<< (y &&& 31)) (by omega)
  rw [e2, e1, e0]
  exact ⟨q1, q2⟩
end
section
/-! the bounded machine is sound: operations, cuts, branches -/
theorem jbif2 {α : Type} {b : Bool} {v w : α} (h : (bif b then none else some v) = some w) : b = false ∧ v = w := by
  cases b with
  | true => cases h
  | false => exact ⟨rfl, Option.some.inj h⟩
theorem jrem_ok {x y : Int32} (hx : 0 ≤ x.toInt) (hy : 0 < y.toInt) : 0 ≤ (x - x / y * y).toInt ∧ (x - x / y * y).toInt ≤ x.toInt ∧ (x - x / y * y).toInt ≤ y.toInt - 1 := by
  have hxd : (x / y).toInt = x.toInt.tdiv y.toInt := Int32.toInt_div_of_ne_right x y (fun e => by rw [e] at hy; revert hy; decide)
  have hq0 : 0 ≤ x.toInt.tdiv y.toInt := Int.tdiv_nonneg hx (Int.le_of_lt hy)
  have e0 := Int.tmod_add_mul_tdiv x.toInt y.toInt
  rw [Int.mul_comm] at e0
  have m0 := Int.tmod_nonneg y.toInt hx
  have m1 := Int.tmod_lt_of_pos x.toInt hy
  have hm0 : 0 ≤ x.toInt.tdiv y.toInt * y.toInt := Int.mul_nonneg hq0 (Int.le_of_lt hy)
  have hxl := Int32.toInt_lt x
  have e1 : (x / y * y).toInt = x.toInt.tdiv y.toInt * y.toInt := by
    rw [Int32.toInt_mul, hxd]
    exact Int.bmod_eq_of_le (by omega) (by omega)
  have e2 : (x - x / y * y).toInt = x.toInt - x.toInt.tdiv y.toInt * y.toInt := by
    rw [Int32.toInt_sub, e1]
    exact Int.bmod_eq_of_le (by omega) (by omega)
  rw [e2]
  omega
theorem jlg (u w : Int64) : (u.toInt < w.toInt → lg_cmp u w = -1) ∧ (w.toInt < u.toInt → lg_cmp u w = 1) ∧ (u.toInt = w.toInt → lg_cmp u w = 0) := by
  refine ⟨fun z => ?_, fun z => ?_, fun z => ?_⟩
  · unfold lg_cmp
    rw [if_neg (fun z2 : u > w => by have := Int64.lt_iff_toInt_lt.mp z2; omega), if_neg (fun z2 : u = w => by subst z2; omega)]
  · unfold lg_cmp
    rw [if_pos (Int64.lt_iff_toInt_lt.mpr z)]
  · have e : u = w := Int64.toInt_inj.mp z
    subst e
    unfold lg_cmp
    rw [if_neg (fun z2 : u > u => by have := Int64.lt_iff_toInt_lt.mp z2; omega), if_pos rfl]
theorem jc3 {a b c d : Int} {x y : Int} {z : Int32} (h1 : x < y → z = -1) (h2 : y < x → z = 1) (h3 : x = y → z = 0) (x1 : a ≤ x) (x2 : x ≤ b) (y1 : c ≤ y) (y2 : y ≤ d) :
    jI 0 (bif decide (b < c) then ((-1 : Int), (-1 : Int)) else bif decide (d < a) then (1, 1) else (-1, 1)).1 (bif decide (b < c) then ((-1 : Int), (-1 : Int)) else bif decide (d < a) then (1, 1) else (-1, 1)).2 (.int z) := by
  cases q1 : decide (b < c) with
  | true => have := of_decide_eq_true q1; rw [h1 (by omega)]; exact ⟨rfl, Int.le_refl _, Int.le_refl _⟩
  | false =>
    cases q2 : decide (d < a) with
    | true => have := of_decide_eq_true q2; rw [h2 (by omega)]; exact ⟨rfl, by decide, by decide⟩
    | false =>
      rcases Int.lt_trichotomy x y with g | g | g
      · rw [h1 g]; exact ⟨rfl, by decide, by decide⟩
      · rw [h3 g]; exact ⟨rfl, by decide, by decide⟩
      · rw [h2 g]; exact ⟨rfl, by decide, by decide⟩
theorem jic (x y : Int32) : (x.toInt < y.toInt → (if x < y then (-1 : Int32) else if x = y then 0 else 1) = -1) ∧ (y.toInt < x.toInt → (if x < y then (-1 : Int32) else if x = y then 0 else 1) = 1) ∧ (x.toInt = y.toInt → (if x < y then (-1 : Int32) else if x = y then 0 else 1) = 0) := by
  refine ⟨fun z => ?_, fun z => ?_, fun z => ?_⟩
  · rw [if_pos (Int32.lt_iff_toInt_lt.mpr z)]
  · rw [if_neg (fun z2 => by have := Int32.lt_iff_toInt_lt.mp z2; omega), if_neg (fun z2 => by subst z2; omega)]
  · rw [if_neg (fun z2 => by have := Int32.lt_iff_toInt_lt.mp z2; omega), if_pos (Int32.toInt_inj.mp z)]
set_option maxHeartbeats 4000000 in
theorem jop_ok {o : Nat} {x y v : Value} {a b : Int × Int} (e : jop o x y = some v) (hx : jI (jkd o).1 a.1 a.2 x) (hy : jI (jkd o).2.1 b.1 b.2 y) : jI (jkd o).2.2 (jbn o a b).1 (jbn o a b).2 v := by
  unfold jop at e
  split at e
  next x y => cases e; exact jft_ok (Int32.toInt_add x y) (by have := hx.2.1; have := hy.2.1; show a.1 + b.1 ≤ x.toInt + y.toInt; exact Int.add_le_add hx.2.1 hy.2.1) (Int.add_le_add hx.2.2 hy.2.2)
  next x y => cases e; exact jft_ok (Int32.toInt_sub x y) (Int.sub_le_sub hx.2.1 hy.2.2) (Int.sub_le_sub hx.2.2 hy.2.1)
  next x y =>
    cases e
    show jI 0 (bif decide (0 ≤ a.1) && decide (0 ≤ b.1) then jft (a.1 * b.1) (a.2 * b.2) else jF).1 (bif decide (0 ≤ a.1) && decide (0 ≤ b.1) then jft (a.1 * b.1) (a.2 * b.2) else jF).2 _
    cases hb : (decide (0 ≤ a.1) && decide (0 ≤ b.1)) with
    | false => exact jF_ok _
    | true =>
      simp only [Bool.and_eq_true, decide_eq_true_eq] at hb
      have x1 : a.1 ≤ x.toInt := hx.2.1
      have x2 : x.toInt ≤ a.2 := hx.2.2
      have y1 : b.1 ≤ y.toInt := hy.2.1
      have y2 : y.toInt ≤ b.2 := hy.2.2
      exact jft_ok (Int32.toInt_mul x y) (Int.mul_le_mul x1 y1 hb.2 (by omega)) (Int.mul_le_mul x2 y2 (by omega) (by omega))
  next x y =>
    obtain ⟨hy0, e⟩ := jbif2 e
    cases e
    show jI 0 (bif decide (b.1 = b.2) && decide (0 < b.1) then (a.1.tdiv b.1, a.2.tdiv b.1) else jF).1 (bif decide (b.1 = b.2) && decide (0 < b.1) then (a.1.tdiv b.1, a.2.tdiv b.1) else jF).2 _
    cases hb : (decide (b.1 = b.2) && decide (0 < b.1)) with
    | false => exact jF_ok _
    | true =>
      simp only [Bool.and_eq_true, decide_eq_true_eq] at hb
      have x1 : a.1 ≤ x.toInt := hx.2.1
      have x2 : x.toInt ≤ a.2 := hx.2.2
      have y1 : b.1 ≤ y.toInt := hy.2.1
      have y2 : y.toInt ≤ b.2 := hy.2.2
      have ey : y.toInt = b.1 := by omega
      have hxd : (x / y).toInt = x.toInt.tdiv y.toInt := Int32.toInt_div_of_ne_right x y (fun e => by rw [e] at ey; have : (-1 : Int32).toInt = -1 := by decide
                                                                                                      omega)
      refine ⟨rfl, ?_, ?_⟩
      · show a.1.tdiv b.1 ≤ (x / y).toInt
        rw [hxd, ey]; exact Int.tdiv_le_tdiv hb.2 x1
      · show (x / y).toInt ≤ a.2.tdiv b.1
        rw [hxd, ey]; exact Int.tdiv_le_tdiv hb.2 x2
  next x y =>
    obtain ⟨hy0, e⟩ := jbif2 e
    cases e
    show jI 0 (bif decide (b.1 = b.2) && decide (0 < b.1) && decide (0 ≤ a.1) then (0, jmi a.2 (b.1 - 1)) else jF).1 (bif decide (b.1 = b.2) && decide (0 < b.1) && decide (0 ≤ a.1) then (0, jmi a.2 (b.1 - 1)) else jF).2 _
    cases hb : (decide (b.1 = b.2) && decide (0 < b.1) && decide (0 ≤ a.1)) with
    | false => exact jF_ok _
    | true =>
      simp only [Bool.and_eq_true, decide_eq_true_eq] at hb
      have x1 : a.1 ≤ x.toInt := hx.2.1
      have x2 : x.toInt ≤ a.2 := hx.2.2
      have y1 : b.1 ≤ y.toInt := hy.2.1
      have y2 : y.toInt ≤ b.2 := hy.2.2
      obtain ⟨r1, r2, r3⟩ := jrem_ok (x := x) (y := y) (by omega) (by omega)
      exact ⟨rfl, r1, jmi_le _ _ _ (Int.le_trans r2 x2) (by show (x - x / y * y).toInt ≤ b.1 - 1; omega)⟩
  next x y =>
    cases e
    have x1 : a.1 ≤ x.toInt := hx.2.1
    have x2 : x.toInt ≤ a.2 := hx.2.2
    have y1 : b.1 ≤ y.toInt := hy.2.1
    have y2 : y.toInt ≤ b.2 := hy.2.2
    show jI 0 (bif decide (0 ≤ a.1) then (0, bif decide (0 ≤ b.1) then jmi a.2 b.2 else a.2) else bif decide (0 ≤ b.1) then (0, b.2) else jF).1 (bif decide (0 ≤ a.1) then (0, bif decide (0 ≤ b.1) then jmi a.2 b.2 else a.2) else bif decide (0 ≤ b.1) then (0, b.2) else jF).2 _
    cases ha : decide (0 ≤ a.1) with
    | true =>
      have ha := of_decide_eq_true ha
      obtain ⟨p1, p2⟩ := jand_1 (x := x) (y := y) (by omega)
      cases hb : decide (0 ≤ b.1) with
      | true =>
        have hb := of_decide_eq_true hb
        obtain ⟨p3, p4⟩ := jand_2 (x := x) (y := y) (by omega)
        exact ⟨rfl, p1, jmi_le _ _ _ (Int.le_trans p2 x2) (Int.le_trans p4 y2)⟩
      | false => exact ⟨rfl, p1, Int.le_trans p2 x2⟩
    | false =>
      cases hb : decide (0 ≤ b.1) with
      | true =>
        have hb := of_decide_eq_true hb
        obtain ⟨p3, p4⟩ := jand_2 (x := x) (y := y) (by omega)
        exact ⟨rfl, p3, Int.le_trans p4 y2⟩
      | false => exact jF_ok _
  next x y =>
    cases e
    have x1 : a.1 ≤ x.toInt := hx.2.1
    have x2 : x.toInt ≤ a.2 := hx.2.2
    have y1 : b.1 ≤ y.toInt := hy.2.1
    have y2 : y.toInt ≤ b.2 := hy.2.2
    show jI 0 (bif decide (0 ≤ a.1) && decide (0 ≤ b.1) then (match jpw (jma a.2 b.2) with | some m => (0, m) | none => jF) else jF).1 (bif decide (0 ≤ a.1) && decide (0 ≤ b.1) then (match jpw (jma a.2 b.2) with | some m => (0, m) | none => jF) else jF).2 _
    cases hb : (decide (0 ≤ a.1) && decide (0 ≤ b.1)) with
    | false => exact jF_ok _
    | true =>
      simp only [Bool.and_eq_true, decide_eq_true_eq] at hb
      cases hm : jpw (jma a.2 b.2) with
      | none => exact jF_ok _
      | some m =>
        obtain ⟨m1, k, m2, m3⟩ := jpw_ok hm
        have m4 := jma_1 a.2 b.2
        have m5 := jma_2 a.2 b.2
        obtain ⟨p1, p2⟩ := jor_ok (x := x) (y := y) m2 m3 (by omega) (by omega) (by omega) (by omega)
        exact ⟨rfl, p1, p2⟩
  next x y =>
    cases e
    have x1 : a.1 ≤ x.toInt := hx.2.1
    have x2 : x.toInt ≤ a.2 := hx.2.2
    have y1 : b.1 ≤ y.toInt := hy.2.1
    have y2 : y.toInt ≤ b.2 := hy.2.2
    show jI 0 (bif decide (0 ≤ a.1) && decide (0 ≤ b.1) then (match jpw (jma a.2 b.2) with | some m => (0, m) | none => jF) else jF).1 (bif decide (0 ≤ a.1) && decide (0 ≤ b.1) then (match jpw (jma a.2 b.2) with | some m => (0, m) | none => jF) else jF).2 _
    cases hb : (decide (0 ≤ a.1) && decide (0 ≤ b.1)) with
    | false => exact jF_ok _
    | true =>
      simp only [Bool.and_eq_true, decide_eq_true_eq] at hb
      cases hm : jpw (jma a.2 b.2) with
      | none => exact jF_ok _
      | some m =>
        obtain ⟨m1, k, m2, m3⟩ := jpw_ok hm
        have m4 := jma_1 a.2 b.2
        have m5 := jma_2 a.2 b.2
        obtain ⟨p1, p2⟩ := jxor_ok (x := x) (y := y) m2 m3 (by omega) (by omega) (by omega) (by omega)
        exact ⟨rfl, p1, p2⟩
  next x y =>
    cases e
    have x1 : a.1 ≤ x.toInt := hx.2.1
    have x2 : x.toInt ≤ a.2 := hx.2.2
    have y1 : b.1 ≤ y.toInt := hy.2.1
    have y2 : y.toInt ≤ b.2 := hy.2.2
    show jI 0 (bif decide (0 ≤ a.1) && decide (0 ≤ b.1) && decide (b.2 ≤ 30) && decide (a.2 * 2 ^ b.2.toNat ≤ 2147483647) then (a.1 * 2 ^ b.1.toNat, a.2 * 2 ^ b.2.toNat) else jF).1 (bif decide (0 ≤ a.1) && decide (0 ≤ b.1) && decide (b.2 ≤ 30) && decide (a.2 * 2 ^ b.2.toNat ≤ 2147483647) then (a.1 * 2 ^ b.1.toNat, a.2 * 2 ^ b.2.toNat) else jF).2 _
    cases hb : (decide (0 ≤ a.1) && decide (0 ≤ b.1) && decide (b.2 ≤ 30) && decide (a.2 * 2 ^ b.2.toNat ≤ 2147483647)) with
    | false => exact jF_ok _
    | true =>
      simp only [Bool.and_eq_true, decide_eq_true_eq] at hb
      obtain ⟨p1, p2⟩ := jshl_ok hb.1.1.1 hb.1.1.2 hb.1.2 hb.2 x1 x2 y1 y2
      exact ⟨rfl, p1, p2⟩
  next x y => cases e; exact jF_ok _
  next x y => cases e; exact jF_ok _
  next x y => cases e; exact jF_ok _
  next x y => cases e; exact ⟨rfl, by show a.1 ≤ x.toInt64.toInt; rw [Int32.toInt_toInt64]; exact hx.2.1, by show x.toInt64.toInt ≤ a.2; rw [Int32.toInt_toInt64]; exact hx.2.2⟩
  next x y =>
    cases e
    have x1 : a.1 ≤ x.toInt := hx.2.1
    have x2 : x.toInt ≤ a.2 := hx.2.2
    show jI 0 (bif decide (-2147483648 ≤ a.1) && decide (a.2 ≤ 2147483647) then a else jF).1 (bif decide (-2147483648 ≤ a.1) && decide (a.2 ≤ 2147483647) then a else jF).2 _
    cases hb : (decide (-2147483648 ≤ a.1) && decide (a.2 ≤ 2147483647)) with
    | false => exact jF_ok _
    | true =>
      simp only [Bool.and_eq_true, decide_eq_true_eq] at hb
      have e1 : x.toInt32.toInt = x.toInt := by rw [Int64.toInt_toInt32]; exact Int.bmod_eq_of_le (by omega) (by omega)
      exact ⟨rfl, by show a.1 ≤ x.toInt32.toInt; omega, by show x.toInt32.toInt ≤ a.2; omega⟩
  next x y => cases e; exact jF_ok _
  next x y => cases e; exact jF_ok _
  next x y => cases e; exact jc3 (jlg x y).1 (jlg x y).2.1 (jlg x y).2.2 hx.2.1 hx.2.2 hy.2.1 hy.2.2
  next x y => cases e; exact jF_ok _
  next x y =>
    cases e
    have x1 : a.1 ≤ x.toInt := hx.2.1
    have x2 : x.toInt ≤ a.2 := hx.2.2
    have y1 : b.1 ≤ y.toInt := hy.2.1
    have y2 : y.toInt ≤ b.2 := hy.2.2
    refine ⟨rfl, ?_, ?_⟩
    · show jmi a.1 b.1 ≤ (if y < x then y else x).toInt
      split
      · exact Int.le_trans (jmi_2 _ _) y1
      · exact Int.le_trans (jmi_1 _ _) x1
    · show (if y < x then y else x).toInt ≤ jmi a.2 b.2
      split
      next h => have := Int32.lt_iff_toInt_lt.mp h; exact jmi_le _ _ _ (by omega) y2
      next h => have : ¬ y.toInt < x.toInt := fun h2 => h (Int32.lt_iff_toInt_lt.mpr h2); exact jmi_le _ _ _ x2 (by omega)
  next x y => cases e; exact jc3 (jic x y).1 (jic x y).2.1 (jic x y).2.2 hx.2.1 hx.2.2 hy.2.1 hy.2.2
  next => cases e
theorem jop_ex {x y : Value} : ∀ {o : Nat}, jvo o = true → jk x = (jkd o).1 → jk y = (jkd o).2.1 → ((Nat.beq o 4 || Nat.beq o 5) = true → jz y ≠ 0) → ∃ v, jop o x y = some v
  | 1, _, hx, hy, hz => by
    obtain ⟨x, rfl, -⟩ := (show jI 0 (jz x) (jz x) x from ⟨hx, Int.le_refl _, Int.le_refl _⟩).int
    obtain ⟨y, rfl, -⟩ := (show jI 0 (jz y) (jz y) y from ⟨hy, Int.le_refl _, Int.le_refl _⟩).int
    exact ⟨_, rfl⟩
  | 2, _, hx, hy, hz => by
    obtain ⟨x, rfl, -⟩ := (show jI 0 (jz x) (jz x) x from ⟨hx, Int.le_refl _, Int.le_refl _⟩).int
    obtain ⟨y, rfl, -⟩ := (show jI 0 (jz y) (jz y) y from ⟨hy, Int.le_refl _, Int.le_refl _⟩).int
    exact ⟨_, rfl⟩
  | 3, _, hx, hy, hz => by
    obtain ⟨x, rfl, -⟩ := (show jI 0 (jz x) (jz x) x from ⟨hx, Int.le_refl _, Int.le_refl _⟩).int
    obtain ⟨y, rfl, -⟩ := (show jI 0 (jz y) (jz y) y from ⟨hy, Int.le_refl _, Int.le_refl _⟩).int
    exact ⟨_, rfl⟩
  | 4, _, hx, hy, hz => by
    obtain ⟨x, rfl, -⟩ := (show jI 0 (jz x) (jz x) x from ⟨hx, Int.le_refl _, Int.le_refl _⟩).int
    obtain ⟨y, rfl, -⟩ := (show jI 0 (jz y) (jz y) y from ⟨hy, Int.le_refl _, Int.le_refl _⟩).int
    exact ⟨_, by show (bif decide (y = 0) then none else _) = _; rw [show decide (y = 0) = false from decide_eq_false (fun e => hz (by decide) (by rw [e]; rfl))]; rfl⟩
  | 5, _, hx, hy, hz => by
    obtain ⟨x, rfl, -⟩ := (show jI 0 (jz x) (jz x) x from ⟨hx, Int.le_refl _, Int.le_refl _⟩).int
    obtain ⟨y, rfl, -⟩ := (show jI 0 (jz y) (jz y) y from ⟨hy, Int.le_refl _, Int.le_refl _⟩).int
    exact ⟨_, by show (bif decide (y = 0) then none else _) = _; rw [show decide (y = 0) = false from decide_eq_false (fun e => hz (by decide) (by rw [e]; rfl))]; rfl⟩
  | 6, _, hx, hy, hz => by
    obtain ⟨x, rfl, -⟩ := (show jI 0 (jz x) (jz x) x from ⟨hx, Int.le_refl _, Int.le_refl _⟩).int
    obtain ⟨y, rfl, -⟩ := (show jI 0 (jz y) (jz y) y from ⟨hy, Int.le_refl _, Int.le_refl _⟩).int
    exact ⟨_, rfl⟩
  | 7, _, hx, hy, hz => by
    obtain ⟨x, rfl, -⟩ := (show jI 0 (jz x) (jz x) x from ⟨hx, Int.le_refl _, Int.le_refl _⟩).int
    obtain ⟨y, rfl, -⟩ := (show jI 0 (jz y) (jz y) y from ⟨hy, Int.le_refl _, Int.le_refl _⟩).int
    exact ⟨_, rfl⟩
  | 8, _, hx, hy, hz => by
    obtain ⟨x, rfl, -⟩ := (show jI 0 (jz x) (jz x) x from ⟨hx, Int.le_refl _, Int.le_refl _⟩).int
    obtain ⟨y, rfl, -⟩ := (show jI 0 (jz y) (jz y) y from ⟨hy, Int.le_refl _, Int.le_refl _⟩).int
    exact ⟨_, rfl⟩
  | 9, _, hx, hy, hz => by
    obtain ⟨x, rfl, -⟩ := (show jI 0 (jz x) (jz x) x from ⟨hx, Int.le_refl _, Int.le_refl _⟩).int
    obtain ⟨y, rfl, -⟩ := (show jI 0 (jz y) (jz y) y from ⟨hy, Int.le_refl _, Int.le_refl _⟩).int
    exact ⟨_, rfl⟩
  | 10, _, hx, hy, hz => by
    obtain ⟨x, rfl, -⟩ := (show jI 0 (jz x) (jz x) x from ⟨hx, Int.le_refl _, Int.le_refl _⟩).int
    obtain ⟨y, rfl, -⟩ := (show jI 0 (jz y) (jz y) y from ⟨hy, Int.le_refl _, Int.le_refl _⟩).int
    exact ⟨_, rfl⟩
  | 11, _, hx, hy, hz => by
    obtain ⟨x, rfl, -⟩ := (show jI 0 (jz x) (jz x) x from ⟨hx, Int.le_refl _, Int.le_refl _⟩).int
    obtain ⟨y, rfl, -⟩ := (show jI 0 (jz y) (jz y) y from ⟨hy, Int.le_refl _, Int.le_refl _⟩).int
    exact ⟨_, rfl⟩
  | 12, _, hx, hy, hz => by
    obtain ⟨x, rfl, -⟩ := (show jI 0 (jz x) (jz x) x from ⟨hx, Int.le_refl _, Int.le_refl _⟩).int
    obtain ⟨y, rfl, -⟩ := (show jI 0 (jz y) (jz y) y from ⟨hy, Int.le_refl _, Int.le_refl _⟩).int
    exact ⟨_, rfl⟩
  | 13, _, hx, hy, hz => by
    obtain ⟨x, rfl, -⟩ := (show jI 0 (jz x) (jz x) x from ⟨hx, Int.le_refl _, Int.le_refl _⟩).int
    obtain ⟨y, rfl, -⟩ := (show jI 0 (jz y) (jz y) y from ⟨hy, Int.le_refl _, Int.le_refl _⟩).int
    exact ⟨_, rfl⟩
  | 14, _, hx, hy, hz => by
    obtain ⟨x, rfl, -⟩ := (show jI 1 (jz x) (jz x) x from ⟨hx, Int.le_refl _, Int.le_refl _⟩).long
    obtain ⟨y, rfl, -⟩ := (show jI 0 (jz y) (jz y) y from ⟨hy, Int.le_refl _, Int.le_refl _⟩).int
    exact ⟨_, rfl⟩
  | 15, _, hx, hy, hz => by
    obtain ⟨x, rfl, -⟩ := (show jI 0 (jz x) (jz x) x from ⟨hx, Int.le_refl _, Int.le_refl _⟩).int
    obtain ⟨y, rfl, -⟩ := (show jI 0 (jz y) (jz y) y from ⟨hy, Int.le_refl _, Int.le_refl _⟩).int
    exact ⟨_, rfl⟩
  | 16, _, hx, hy, hz => by
    obtain ⟨x, rfl, -⟩ := (show jI 0 (jz x) (jz x) x from ⟨hx, Int.le_refl _, Int.le_refl _⟩).int
    obtain ⟨y, rfl, -⟩ := (show jI 0 (jz y) (jz y) y from ⟨hy, Int.le_refl _, Int.le_refl _⟩).int
    exact ⟨_, rfl⟩
  | 17, _, hx, hy, hz => by
    obtain ⟨x, rfl, -⟩ := (show jI 1 (jz x) (jz x) x from ⟨hx, Int.le_refl _, Int.le_refl _⟩).long
    obtain ⟨y, rfl, -⟩ := (show jI 1 (jz y) (jz y) y from ⟨hy, Int.le_refl _, Int.le_refl _⟩).long
    exact ⟨_, rfl⟩
  | 21, _, hx, hy, hz => by
    obtain ⟨x, rfl, -⟩ := (show jI 0 (jz x) (jz x) x from ⟨hx, Int.le_refl _, Int.le_refl _⟩).int
    obtain ⟨y, rfl, -⟩ := (show jI 0 (jz y) (jz y) y from ⟨hy, Int.le_refl _, Int.le_refl _⟩).int
    exact ⟨_, rfl⟩
  | 22, _, hx, hy, hz => by
    obtain ⟨x, rfl, -⟩ := (show jI 0 (jz x) (jz x) x from ⟨hx, Int.le_refl _, Int.le_refl _⟩).int
    obtain ⟨y, rfl, -⟩ := (show jI 0 (jz y) (jz y) y from ⟨hy, Int.le_refl _, Int.le_refl _⟩).int
    exact ⟨_, rfl⟩
  | 23, _, hx, hy, hz => by
    obtain ⟨x, rfl, -⟩ := (show jI 0 (jz x) (jz x) x from ⟨hx, Int.le_refl _, Int.le_refl _⟩).int
    obtain ⟨y, rfl, -⟩ := (show jI 0 (jz y) (jz y) y from ⟨hy, Int.le_refl _, Int.le_refl _⟩).int
    exact ⟨_, rfl⟩
  | 0, h, _, _, _ => absurd h (by decide)
  | 18, h, _, _, _ => absurd h (by decide)
  | 19, h, _, _, _ => absurd h (by decide)
  | 20, h, _, _, _ => absurd h (by decide)
  | n + 24, h, _, _, _ => absurd (Nat.blt_eq.mp (show Nat.blt (n + 24) 24 = true from h)) (by omega)
/-! cuts -/
theorem jcr_ok {G : jGt} {r : jP} {g : jS} {p : xH} (h : jSt G r g p) {s : Nat} {q : jRow} {v : Value} {lo hi : Int} (e : xfd g.2.1 s = some q) (k : r[s]? = some (.inl v)) (h1 : lo ≤ jz v) (h2 : jz v ≤ hi) : jSt G r (jcr g s q lo hi) p := by
  obtain ⟨a1, a2, a3, a4, a5⟩ := h
  refine ⟨a1, fun x hx => ?_, a3, a4, a5⟩
  rcases List.mem_cons.mp hx with rfl | hx
  · obtain ⟨w, b1, b2, b3⟩ := jrow_of a2 e
    rw [b1] at k
    cases k
    exact ⟨_, b1, ⟨b2.1, jma_le _ _ _ b2.2.1 h1, jmi_le _ _ _ b2.2.2 h2⟩, b3⟩
  · exact a2 x (List.mem_filter.mp hx).1
theorem jcut_ok {G : jGt} {r : jP} {p : xH} : ∀ (n : Nat) {g : jS} {a : jV} {lo hi : Int} {v : Value}, jSt G r g p → jR r a v → lo ≤ jz v → jz v ≤ hi → ∃ g', jcut n g a lo hi = some g' ∧ jSt G r g' p := by
  intro n
  induction n with
  | zero =>
    intro g a lo hi v h k h1 h2
    cases a with
    | inl w =>
      obtain rfl : v = w := k
      exact ⟨g, by unfold jcut; rw [decide_eq_true h1, decide_eq_true h2]; rfl, h⟩
    | inr s =>
      unfold jcut
      split
      next => exact ⟨g, rfl, h⟩
      next q e =>
        obtain ⟨w, b1, b2, b3⟩ := jrow_of h.2.1 e
        have k' : r[s]? = some (.inl v) := k
        rw [b1] at k'
        cases k'
        rw [decide_eq_false (fun z => by have := jma_le _ _ _ b2.2.1 h1; have := jmi_le _ _ _ b2.2.2 h2; omega), cond_false]
        cases hb : (decide (lo ≤ q.2.1) && decide (q.2.2.1 ≤ hi)) with
        | true => exact ⟨g, rfl, h⟩
        | false => exact ⟨_, rfl, jcr_ok h e b1 h1 h2⟩
  | succ n ih =>
    intro g a lo hi v h k h1 h2
    cases a with
    | inl w =>
      obtain rfl : v = w := k
      exact ⟨g, by unfold jcut; rw [decide_eq_true h1, decide_eq_true h2]; rfl, h⟩
    | inr s =>
      unfold jcut
      split
      next => exact ⟨g, rfl, h⟩
      next q e =>
        obtain ⟨w, b1, b2, b3⟩ := jrow_of h.2.1 e
        have k' : r[s]? = some (.inl v) := k
        rw [b1] at k'
        cases k'
        have c1 := jma_le _ _ _ b2.2.1 h1
        have c2 := jmi_le _ _ _ b2.2.2 h2
        rw [decide_eq_false (fun z => by omega), cond_false]
        have hj := jcr_ok h e b1 h1 h2
        cases hb : (decide (lo ≤ q.2.1) && decide (q.2.2.1 ≤ hi)) with
        | true => exact ⟨g, rfl, h⟩
        | false =>
          rw [cond_false]
          split
          next a b hd =>
            rw [hd] at b3
            obtain ⟨x, y, d1, d2, -, d4⟩ := b3
            obtain ⟨d5, d6, d7⟩ := d4 (fun z => by cases z)
            obtain ⟨x, rfl, -⟩ := (show jI 0 (jz x) (jz x) x from ⟨d6, Int.le_refl _, Int.le_refl _⟩).int
            obtain ⟨y, rfl, -⟩ := (show jI 0 (jz y) (jz y) y from ⟨d7, Int.le_refl _, Int.le_refl _⟩).int
            have d5 : some (Value.long x.toInt64) = some v := d5
            cases d5
            have e1 : jz (.long x.toInt64) = jz (.int x) := Int32.toInt_toInt64 x
            exact ih hj d1 (by rw [← e1]; exact c1) (by rw [← e1]; exact c2)
          next a b hd =>
            rw [hd] at b3
            obtain ⟨x, y, d1, d2, -, d4⟩ := b3
            obtain ⟨d5, d6, d7⟩ := d4 (fun z => by cases z)
            split
            next t1 t2 ht1 ht2 =>
              have i1 := jbd_ok h.2.1 ht1 d1
              have i2 := jbd_ok h.2.1 ht2 d2
              obtain ⟨x, rfl, -⟩ := (show jI 0 (jz x) (jz x) x from ⟨d6, Int.le_refl _, Int.le_refl _⟩).int
              obtain ⟨y, rfl, -⟩ := (show jI 0 (jz y) (jz y) y from ⟨d7, Int.le_refl _, Int.le_refl _⟩).int
              have d5 : some (Value.int (x + y)) = some v := d5
              cases d5
              cases hq : (decide (-2147483648 ≤ t1.2.1 + t2.2.1) && decide (t1.2.2 + t2.2.2 ≤ 2147483647)) with
              | false => exact ⟨_, rfl, hj⟩
              | true =>
                simp only [Bool.and_eq_true, decide_eq_true_eq] at hq
                have x1 : t1.2.1 ≤ x.toInt := i1.2.1
                have x2 : x.toInt ≤ t1.2.2 := i1.2.2
                have y1 : t2.2.1 ≤ y.toInt := i2.2.1
                have y2 : y.toInt ≤ t2.2.2 := i2.2.2
                have e1 : (x + y).toInt = x.toInt + y.toInt := by rw [Int32.toInt_add]; exact Int.bmod_eq_of_le (by omega) (by omega)
                have c1 : jma q.2.1 lo ≤ (x + y).toInt := c1
                have c2 : (x + y).toInt ≤ jmi q.2.2.1 hi := c2
                obtain ⟨g1, f1, f2⟩ := ih (a := a) (lo := jma q.2.1 lo - t2.2.2) (hi := jmi q.2.2.1 hi - t2.2.1) hj d1 (by show _ ≤ x.toInt; omega) (by show x.toInt ≤ _; omega)
                obtain ⟨g2, f3, f4⟩ := ih (a := b) (lo := jma q.2.1 lo - t1.2.2) (hi := jmi q.2.2.1 hi - t1.2.1) f2 d2 (by show _ ≤ y.toInt; omega) (by show y.toInt ≤ _; omega)
                exact ⟨g2, by rw [cond_true, f1, Option.bind_some, f3], f4⟩
            next => exact ⟨_, rfl, hj⟩
          next a b hd =>
            rw [hd] at b3
            obtain ⟨x, y, d1, d2, -, d4⟩ := b3
            obtain ⟨d5, d6, d7⟩ := d4 (fun z => by cases z)
            split
            next t1 t2 ht1 ht2 =>
              have i1 := jbd_ok h.2.1 ht1 d1
              have i2 := jbd_ok h.2.1 ht2 d2
              obtain ⟨x, rfl, -⟩ := (show jI 0 (jz x) (jz x) x from ⟨d6, Int.le_refl _, Int.le_refl _⟩).int
              obtain ⟨y, rfl, -⟩ := (show jI 0 (jz y) (jz y) y from ⟨d7, Int.le_refl _, Int.le_refl _⟩).int
              have d5 : some (Value.int (x - y)) = some v := d5
              cases d5
              cases hq : (decide (-2147483648 ≤ t1.2.1 - t2.2.2) && decide (t1.2.2 - t2.2.1 ≤ 2147483647)) with
              | false => exact ⟨_, rfl, hj⟩
              | true =>
                simp only [Bool.and_eq_true, decide_eq_true_eq] at hq
                have x1 : t1.2.1 ≤ x.toInt := i1.2.1
                have x2 : x.toInt ≤ t1.2.2 := i1.2.2
                have y1 : t2.2.1 ≤ y.toInt := i2.2.1
                have y2 : y.toInt ≤ t2.2.2 := i2.2.2
                have e1 : (x - y).toInt = x.toInt - y.toInt := by rw [Int32.toInt_sub]; exact Int.bmod_eq_of_le (by omega) (by omega)
                have c1 : jma q.2.1 lo ≤ (x - y).toInt := c1
                have c2 : (x - y).toInt ≤ jmi q.2.2.1 hi := c2
                obtain ⟨g1, f1, f2⟩ := ih (a := a) (lo := jma q.2.1 lo + t2.2.1) (hi := jmi q.2.2.1 hi + t2.2.2) hj d1 (by show _ ≤ x.toInt; omega) (by show x.toInt ≤ _; omega)
                obtain ⟨g2, f3, f4⟩ := ih (a := b) (lo := t1.2.1 - jmi q.2.2.1 hi) (hi := t1.2.2 - jma q.2.1 lo) f2 d2 (by show _ ≤ y.toInt; omega) (by show y.toInt ≤ _; omega)
                exact ⟨g2, by rw [cond_true, f1, Option.bind_some, f3], f4⟩
            next => exact ⟨_, rfl, hj⟩
          next => exact ⟨_, rfl, hj⟩
end
section
/-! the bounded machine is sound: arithmetic, branches -/
theorem jde_ok {d e : Option jD} (h : jde d e = true) : ∃ c, d = some c ∧ e = some c := by
  unfold jde at h
  split at h
  next a b =>
    simp only [Bool.and_eq_true] at h
    obtain ⟨a1, a2, a3⟩ := a
    obtain ⟨b1, b2, b3⟩ := b
    have h1 : a1 = b1 := Nat.eq_of_beq_eq_true h.1.1
    have h2 : a2 = b2 := jve_ok h.1.2
    have h3 : a3 = b3 := jve_ok h.2
    subst h1 h2 h3
    exact ⟨_, rfl, rfl⟩
  next => cases h
theorem jvn_ok : ∀ {tb : jTb} {d : jD} {s : Nat}, jvn tb (some d) = some s → ∃ q, (s, q) ∈ tb ∧ q.2.2.2 = some d
  | [], d, s, h => by cases h
  | q :: t, d, s, h => by
    unfold jvn at h
    cases hb : jde q.2.2.2.2 (some d) with
    | true =>
      rw [hb] at h
      cases h
      obtain ⟨c, h1, h2⟩ := jde_ok hb
      cases h2
      exact ⟨q.2, List.mem_cons_self, h1⟩
    | false =>
      rw [hb] at h
      obtain ⟨q', h1, h2⟩ := jvn_ok h
      exact ⟨q', List.mem_cons_of_mem _ h1, h2⟩
theorem jdk_ok {o : Nat} {l h : Int} {y : Value} (e : jdk o l h = true) (h1 : l ≤ jz y) (h2 : jz y ≤ h) : jvo o = true ∧ ((Nat.beq o 4 || Nat.beq o 5) = true → jz y ≠ 0) := by
  unfold jdk at e
  rw [Bool.and_eq_true] at e
  refine ⟨e.1, fun ho => ?_⟩
  have e2 := e.2
  rw [ho, cond_true, Bool.or_eq_true, decide_eq_true_eq, decide_eq_true_eq] at e2
  omega
theorem jvo_0 {o : Nat} (h : jvo o = true) : o ≠ 0 := fun e => by rw [e] at h; cases h
theorem jar1_ok {G : jGt} {r : jP} {g g' : jS} {p : xH} {o : Nat} {a b c : jV} {x y : Value} (h : jSt G r g p) (e : jar1 g o a b = some (c, g')) (hx : jR r a x) (hy : jR r b y) : ∃ v r', jop o x y = some v ∧ jLe r r' ∧ jSt G r' g' p ∧ jR r' c v := by
  unfold jar1 at e
  split at e
  next q1 q2 h1 h2 =>
    obtain ⟨hc, e⟩ := xbif e
    simp only [Bool.and_eq_true] at hc
    have i1 := jbd_ok h.2.1 h1 hx
    have i2 := jbd_ok h.2.1 h2 hy
    have k1 := Nat.eq_of_beq_eq_true hc.1.1
    have k2 := Nat.eq_of_beq_eq_true hc.1.2
    obtain ⟨d1, d2⟩ := jdk_ok hc.2 i2.2.1 i2.2.2
    obtain ⟨v, hv⟩ := jop_ex (x := x) (y := y) d1 (i1.1.trans k1) (i2.1.trans k2) d2
    rw [k1] at i1
    rw [k2] at i2
    have iv := jop_ok (a := q1.2) (b := q2.2) hv i1 i2
    split at e
    next s hs =>
      obtain ⟨g2, f1, f2⟩ := xmap e
      cases f2
      obtain ⟨q, m1, m2⟩ := jvn_ok hs
      obtain ⟨w, w1, w2, w3⟩ := h.2.1 _ m1
      rw [m2] at w3
      obtain ⟨x', y', w4, w5, -, w7⟩ := w3
      obtain ⟨w7, -⟩ := w7 (jvo_0 d1)
      cases hx.one w4
      cases hy.one w5
      have w7 : jop o x y = some w := w7
      rw [hv] at w7
      cases w7
      obtain ⟨g3, f3, f4⟩ := jcut_ok 3 h (show jR r (.inr s) v from w1) iv.2.1 iv.2.2
      rw [f1] at f3
      cases f3
      exact ⟨v, r, hv, jLe.refl r, f4, jnm_ok f4.2.1 w1⟩
    next hs =>
      cases e
      obtain ⟨l1, l2, l3⟩ := jfr_ok h (q := ((jkd o).2.2, (jbn o q1.2 q2.2).1, (jbn o q1.2 q2.2).2, some (o, a, b))) iv ⟨x, y, hx, hy, fun z => absurd z (jvo_0 d1), fun _ => ⟨hv, i1.1, i2.1⟩⟩
      exact ⟨v, _, hv, l1, l2, l3⟩
  next => cases e
theorem jsw1 (x y : Value) : jop 1 y x = jop 1 x y := by
  cases x <;> cases y <;> simp [jop, Int32.add_comm]
theorem jsw3 (x y : Value) : jop 3 y x = jop 3 x y := by
  cases x <;> cases y <;> simp [jop, Int32.mul_comm]
theorem jop_sw {o : Nat} {a : jV} {x y : Value} (h : jsw o a = true) : jop o y x = jop o x y := by
  unfold jsw at h
  simp only [Bool.and_eq_true, Bool.or_eq_true] at h
  rcases h.1 with h1 | h1
  · rw [Nat.eq_of_beq_eq_true h1]; exact jsw1 x y
  · rw [Nat.eq_of_beq_eq_true h1]; exact jsw3 x y
theorem jar2_ok {G : jGt} {r : jP} {g g' : jS} {p : xH} {o : Nat} {a b c : jV} {x y : Value} (h : jSt G r g p) (e : jar2 g o a b = some (c, g')) (hx : jR r a x) (hy : jR r b y) : ∃ v r', jop o x y = some v ∧ jLe r r' ∧ jSt G r' g' p ∧ jR r' c v := by
  unfold jar2 at e
  split at e
  next u w =>
    obtain ⟨v, e1, e2⟩ := xmap e
    cases e2
    cases hx
    cases hy
    exact ⟨v, r, e1, jLe.refl r, h, rfl⟩
  next =>
    cases hb : jsw o a with
    | true =>
      rw [hb] at e
      obtain ⟨v, r', h1, h2, h3, h4⟩ := jar1_ok h e hy hx
      exact ⟨v, r', by rw [← h1]; exact (jop_sw hb).symm, h2, h3, h4⟩
    | false =>
      rw [hb] at e
      exact jar1_ok h e hx hy
theorem jar_ok {G : jGt} {r : jP} {g g' : jS} {p : xH} {o : Nat} {a b c : jV} {x y : Value} (h : jSt G r g p) (e : jar g o a b = some (c, g')) (hx : jR r a x) (hy : jR r b y) : ∃ v r', jop o x y = some v ∧ jLe r r' ∧ jSt G r' g' p ∧ jR r' c v :=
  jar2_ok h e (jnm_ok h.2.1 hx) (jnm_ok h.2.1 hy)
/-! branches -/
theorem jzb (v : Value) : -9223372036854775808 ≤ jz v ∧ jz v ≤ 9223372036854775807 := by
  cases v with
  | int x => have := j32 x; show -9223372036854775808 ≤ x.toInt ∧ x.toInt ≤ _; omega
  | long x => exact j64 x
  | _ => exact ⟨show (-9223372036854775808 : Int) ≤ 0 by decide, show (0 : Int) ≤ 9223372036854775807 by decide⟩
theorem jfa_ok {G : jGt} {r : jP} {g : jS} {p : xH} {a b : jV} {x y : Value} {lo hi : Int} (h : jSt G r g p) (hx : jR r a x) (hy : jR r b y) (hz : ∀ v, jop 23 x y = some v → lo ≤ jz v ∧ jz v ≤ hi) : ∃ g' r', jfa g a b lo hi = some g' ∧ jLe r r' ∧ jSt G r' g' p := by
  unfold jfa
  split
  next s t =>
    split
    next z hz1 =>
      obtain ⟨c, g1⟩ := z
      obtain ⟨v, r', h1, h2, h3, h4⟩ := jar1_ok h hz1 hx hy
      obtain ⟨g2, f1, f2⟩ := jcut_ok 0 h3 h4 (hz v h1).1 (hz v h1).2
      exact ⟨g2, r', f1, h2, f2⟩
    next => exact ⟨g, r, rfl, jLe.refl r, h⟩
  next => exact ⟨g, r, rfl, jLe.refl r, h⟩
theorem jop23 {x y : Int32} {v : Value} (h : jop 23 (.int x) (.int y) = some v) : (x.toInt < y.toInt → jz v = -1) ∧ (y.toInt ≤ x.toInt → 0 ≤ jz v ∧ jz v ≤ 1) := by
  have h : some (Value.int (if x < y then (-1 : Int32) else if x = y then 0 else 1)) = some v := h
  cases h
  obtain ⟨j1, j2, j3⟩ := jic x y
  refine ⟨fun z => ?_, fun z => ?_⟩
  · show (if x < y then (-1 : Int32) else if x = y then 0 else 1).toInt = -1
    rw [j1 z]; rfl
  · show 0 ≤ (if x < y then (-1 : Int32) else if x = y then 0 else 1).toInt ∧ (if x < y then (-1 : Int32) else if x = y then 0 else 1).toInt ≤ 1
    rcases Int.lt_or_eq_of_le z with z | z
    · rw [j2 z]; exact ⟨by decide, by decide⟩
    · rw [j3 z.symm]; exact ⟨by decide, by decide⟩
theorem jop23i {x y v : Value} (h : jop 23 x y = some v) : ∃ u w, x = .int u ∧ y = .int w := by
  cases x <;> cases y <;> first | (exact ⟨_, _, rfl, rfl⟩) | (cases h; done)
theorem jlt_ok {G : jGt} {r : jP} {g : jS} {p : xH} {a b : jV} {x y : Value} (h : jSt G r g p) (hx : jR r a x) (hy : jR r b y) (hz : jz x < jz y) : ∃ g' r', jlt g a b = some g' ∧ jLe r r' ∧ jSt G r' g' p := by
  obtain ⟨g1, r1, f1, f2, f3⟩ := jfa_ok (lo := -1) (hi := -1) h hx hy (fun v hv => by
    obtain ⟨u, w, rfl, rfl⟩ := jop23i hv
    have := (jop23 hv).1 hz
    omega)
  unfold jlt
  rw [f1, Option.bind_some]
  have hx1 := hx.mono f2
  have hy1 := hy.mono f2
  split
  next q1 q2 h1 h2 =>
    have i2 := jbd_ok f3.2.1 h2 hy1
    obtain ⟨g2, e1, e2⟩ := jcut_ok 4 (lo := -9223372036854775808) (hi := q2.2.2 - 1) f3 hx1 (jzb x).1 (by have := i2.2.2; omega)
    rw [e1, Option.bind_some]
    split
    next q3 h3 =>
      have i3 := jbd_ok e2.2.1 h3 hx1
      obtain ⟨g3, e3, e4⟩ := jcut_ok 4 (lo := q3.2.1 + 1) (hi := 9223372036854775807) e2 hy1 (by have := i3.2.1; omega) (jzb y).2
      exact ⟨g3, r1, e3, f2, e4⟩
    next => exact ⟨g2, r1, rfl, f2, e2⟩
  next => exact ⟨g1, r1, rfl, f2, f3⟩
theorem jge_ok {G : jGt} {r : jP} {g : jS} {p : xH} {a b : jV} {x y : Value} (h : jSt G r g p) (hx : jR r a x) (hy : jR r b y) (hz : jz y ≤ jz x) : ∃ g' r', jge g a b = some g' ∧ jLe r r' ∧ jSt G r' g' p := by
  obtain ⟨g1, r1, f1, f2, f3⟩ := jfa_ok (lo := 0) (hi := 1) h hx hy (fun v hv => by
    obtain ⟨u, w, rfl, rfl⟩ := jop23i hv
    exact (jop23 hv).2 hz)
  unfold jge
  rw [f1, Option.bind_some]
  have hx1 := hx.mono f2
  have hy1 := hy.mono f2
  split
  next q1 q2 h1 h2 =>
    have i2 := jbd_ok f3.2.1 h2 hy1
    obtain ⟨g2, e1, e2⟩ := jcut_ok 4 (lo := q2.2.1) (hi := 9223372036854775807) f3 hx1 (by have := i2.2.1; omega) (jzb x).2
    rw [e1, Option.bind_some]
    split
    next q3 h3 =>
      have i3 := jbd_ok e2.2.1 h3 hx1
      obtain ⟨g3, e3, e4⟩ := jcut_ok 4 (lo := -9223372036854775808) (hi := q3.2.2) e2 hy1 (jzb y).1 (by have := i3.2.2; omega)
      exact ⟨g3, r1, e3, f2, e4⟩
    next => exact ⟨g2, r1, rfl, f2, e2⟩
  next => exact ⟨g1, r1, rfl, f2, f3⟩
theorem jeq_ok {G : jGt} {r : jP} {g : jS} {p : xH} {a b : jV} {x y : Value} (h : jSt G r g p) (hx : jR r a x) (hy : jR r b y) (hz : jz x = jz y) : ∃ g', jeq g a b = some g' ∧ jSt G r g' p := by
  unfold jeq
  split
  next q1 q2 h1 h2 =>
    have i1 := jbd_ok h.2.1 h1 hx
    have i2 := jbd_ok h.2.1 h2 hy
    obtain ⟨g2, e1, e2⟩ := jcut_ok 4 (lo := q2.2.1) (hi := q2.2.2) h hx (by have := i2.2.1; omega) (by have := i2.2.2; omega)
    obtain ⟨g3, e3, e4⟩ := jcut_ok 4 (lo := q1.2.1) (hi := q1.2.2) e2 hy (by have := i1.2.1; omega) (by have := i1.2.2; omega)
    exact ⟨g3, by rw [e1, Option.bind_some, e3], e4⟩
  next => exact ⟨g, rfl, h⟩
theorem jgq_ok {r : jP} {g : jS} {a b : jV} {x y : Value} (h : jT r g.2.1) (e : jgq g b a = true) (hx : jR r a x) (hy : jR r b y) : jz x ≤ jz y := by
  unfold jgq at e
  split at e
  next s =>
    split at e
    next q hq =>
      split at e
      next c d hd =>
        obtain ⟨w, w1, w2, w3⟩ := jrow_of h hq
        rw [hd] at w3
        obtain ⟨x', y', w4, w5, w6, -⟩ := w3
        have hc := jve_ok e
        subst hc
        cases hx.one w4
        cases hy.one (show jR r (.inr s) w from w1)
        exact (w6 rfl).2
      next => cases e
    next => cases e
  next => cases e
theorem jmem {α : Type} {o : Option α} {x : α} (h : o = some x) : x ∈ o.toList := by rw [h]; exact List.mem_singleton.mpr rfl
theorem jne_ok {G : jGt} {r : jP} {g : jS} {p : xH} {a b : jV} {x y : Value} (h : jSt G r g p) (hx : jR r a x) (hy : jR r b y) (hz : jz x ≠ jz y) : ∃ g' ∈ jne g a b, ∃ r', jLe r r' ∧ jSt G r' g' p := by
  unfold jne
  cases hb : jgq g b a with
  | true =>
    have := jgq_ok h.2.1 hb hx hy
    obtain ⟨g', r', e1, e2, e3⟩ := jlt_ok h hx hy (by omega)
    exact ⟨g', jmem e1, r', e2, e3⟩
  | false =>
    rw [cond_false]
    cases hc : jgq g a b with
    | true =>
      have := jgq_ok h.2.1 hc hy hx
      obtain ⟨g', r', e1, e2, e3⟩ := jlt_ok h hy hx (by omega)
      exact ⟨g', jmem e1, r', e2, e3⟩
    | false =>
      rw [cond_false]
      split
      next q1 q2 h1 h2 =>
        have i1 := jbd_ok h.2.1 h1 hx
        have i2 := jbd_ok h.2.1 h2 hy
        have := i1.2.1
        have := i1.2.2
        have := i2.2.1
        have := i2.2.2
        cases hd : decide (q2.2.1 = q2.2.2) with
        | true =>
          have hd := of_decide_eq_true hd
          rcases Int.lt_or_gt_of_ne hz with z | z
          · obtain ⟨g2, e1, e2⟩ := jcut_ok 4 (lo := -9223372036854775808) (hi := q2.2.1 - 1) h hx (jzb x).1 (by omega)
            exact ⟨g2, List.mem_append.mpr (Or.inl (jmem e1)), r, jLe.refl r, e2⟩
          · obtain ⟨g2, e1, e2⟩ := jcut_ok 4 (lo := q2.2.1 + 1) (hi := 9223372036854775807) h hx (by omega) (jzb x).2
            exact ⟨g2, List.mem_append.mpr (Or.inr (jmem e1)), r, jLe.refl r, e2⟩
        | false =>
          rw [cond_false]
          cases hd2 : decide (q1.2.1 = q1.2.2) with
          | true =>
            have hd2 := of_decide_eq_true hd2
            rcases Int.lt_or_gt_of_ne hz with z | z
            · obtain ⟨g2, e1, e2⟩ := jcut_ok 4 (lo := q1.2.1 + 1) (hi := 9223372036854775807) h hy (by omega) (jzb y).2
              exact ⟨g2, List.mem_append.mpr (Or.inr (jmem e1)), r, jLe.refl r, e2⟩
            · obtain ⟨g2, e1, e2⟩ := jcut_ok 4 (lo := -9223372036854775808) (hi := q1.2.1 - 1) h hy (jzb y).1 (by omega)
              exact ⟨g2, List.mem_append.mpr (Or.inl (jmem e1)), r, jLe.refl r, e2⟩
          | false => exact ⟨g, List.mem_singleton.mpr rfl, r, jLe.refl r, h⟩
      next => exact ⟨g, List.mem_singleton.mpr rfl, r, jLe.refl r, h⟩
def jcd (c : ClassFile.Cond) (x y : Int) : Prop := match c with
  | .eq => x = y
  | .ne => x ≠ y
  | .lt => x < y
  | .ge => y ≤ x
  | .gt => y < x
  | .le => x ≤ y
theorem jcd_ng {c : ClassFile.Cond} {x y : Int} (h : ¬ jcd c x y) : jcd (jng c) x y := by
  cases c <;> simp only [jcd, jng] at h ⊢ <;> omega
theorem xcmp_j {c : ClassFile.Cond} {x y : Int32} : xcmp c x y = true ↔ jcd c x.toInt y.toInt := by
  cases c
  · exact decide_eq_true_iff.trans Int32.toInt_inj.symm
  · exact decide_eq_true_iff.trans (not_congr Int32.toInt_inj.symm)
  · exact decide_eq_true_iff.trans Int32.lt_iff_toInt_lt
  · exact decide_eq_true_iff.trans Int32.le_iff_toInt_le
  · exact decide_eq_true_iff.trans Int32.lt_iff_toInt_lt
  · exact decide_eq_true_iff.trans Int32.le_iff_toInt_le
theorem jrf_ok {G : jGt} {r : jP} {g : jS} {p : xH} {c : ClassFile.Cond} {a b : jV} {x y : Value} (h : jSt G r g p) (hx : jR r a x) (hy : jR r b y) (hz : jcd c (jz x) (jz y)) : ∃ g' ∈ jrf g c a b, ∃ r', jLe r r' ∧ jSt G r' g' p := by
  cases c with
  | eq => obtain ⟨g', e1, e2⟩ := jeq_ok h hx hy hz; exact ⟨g', jmem e1, r, jLe.refl r, e2⟩
  | ne => exact jne_ok h hx hy hz
  | lt => obtain ⟨g', r', e1, e2, e3⟩ := jlt_ok h hx hy hz; exact ⟨g', jmem e1, r', e2, e3⟩
  | ge => obtain ⟨g', r', e1, e2, e3⟩ := jge_ok h hx hy hz; exact ⟨g', jmem e1, r', e2, e3⟩
  | gt => obtain ⟨g', r', e1, e2, e3⟩ := jlt_ok h hy hx hz; exact ⟨g', jmem e1, r', e2, e3⟩
  | le => obtain ⟨g', r', e1, e2, e3⟩ := jge_ok h hy hx hz; exact ⟨g', jmem e1, r', e2, e3⟩
def jSl (r : jP) : List jV → List Value → Prop
  | [], [] => True
  | a :: as, v :: vs => jR r a v ∧ jSl r as vs
  | _, _ => False
theorem jSl.cons {r : jP} {a : jV} {as : List jV} {st : List Value} (h : jSl r (a :: as) st) : ∃ v vs, st = v :: vs ∧ jR r a v ∧ jSl r as vs := by
  cases st with
  | nil => exact absurd h (by simp [jSl])
  | cons v vs => exact ⟨v, vs, rfl, h⟩
theorem jSl.nil {r : jP} {st : List Value} (h : jSl r [] st) : st = [] := by
  cases st with
  | nil => rfl
  | cons v vs => exact absurd h (by simp [jSl])
theorem jSl.mono {r r' : jP} (h : jLe r r') : ∀ {as : List jV} {vs : List Value}, jSl r as vs → jSl r' as vs
  | [], [], _ => trivial
  | [], _ :: _, e => absurd e (by simp [jSl])
  | _ :: _, [], e => absurd e (by simp [jSl])
  | _ :: _, _ :: _, e => ⟨e.1.mono h, jSl.mono h e.2⟩
theorem jb2_ok {G : jGt} {r : jP} {g : jS} {p : xH} {c : ClassFile.Cond} {a b : jV} {x y : Value} {t f : Nat} {st : List jV} {B : Bool} (h : jSt G r g p) (hx : jR r a x) (hy : jR r b y) (hB : B = true ↔ jcd c (jz x) (jz y)) :
    ∃ u ∈ jb2 g c a b t f st, ∃ r', (bif B then t else f) = u.1 ∧ u.2.1 = st ∧ jLe r r' ∧ jSt G r' u.2.2 p := by
  cases B with
  | true =>
    obtain ⟨g', m, r', e1, e2⟩ := jrf_ok h hx hy (hB.mp rfl)
    exact ⟨(t, st, g'), List.mem_append.mpr (Or.inl (List.mem_map.mpr ⟨g', m, rfl⟩)), r', rfl, rfl, e1, e2⟩
  | false =>
    obtain ⟨g', m, r', e1, e2⟩ := jrf_ok h hx hy (jcd_ng (fun z => by have := hB.mpr z; cases this))
    exact ⟨(f, st, g'), List.mem_append.mpr (Or.inr (List.mem_map.mpr ⟨g', m, rfl⟩)), r', rfl, rfl, e1, e2⟩
theorem jsk_ok {G : jGt} {r : jP} {g : jS} {p : xH} {a : jV} {x : Value} {pc t : Nat} {st : List jV} (h : jSt G r g p) (hx : jR r a x) : ∀ {L : List (Int × Int)} {v o : Int}, (v, o) ∈ L → L.all (fun q => (xtg pc q.2).isSome) = true → jz x = v → xtg pc o = some t → ∃ g', (t, st, g') ∈ jsk g a pc st L ∧ jSt G r g' p
  | [], _, _, m, _, _, _ => absurd m List.not_mem_nil
  | q :: l, v, o, m, ha, hv, ho => by
    rw [List.all_cons, Bool.and_eq_true] at ha
    rcases List.mem_cons.mp m with rfl | m
    · obtain ⟨g2, e1, e2⟩ := jcut_ok 4 (lo := v) (hi := v) h hx (by omega) (by omega)
      refine ⟨g2, ?_, e2⟩
      unfold jsk
      dsimp only
      rw [e1, ho]
      exact List.mem_cons_self
    · obtain ⟨g2, e1, e2⟩ := jsk_ok (t := t) (st := st) h hx m ha.2 hv ho
      refine ⟨g2, ?_, e2⟩
      unfold jsk
      split
      · exact List.mem_cons_of_mem _ e1
      · exact e1
theorem jtz_ok : ∀ {l : List Int} {lo : Int} {k : Nat} {o : Int}, l[k]? = some o → (lo + k, o) ∈ jtz lo l
  | [], lo, k, o, h => by simp at h
  | o' :: l, lo, 0, o, h => by
    simp only [List.getElem?_cons_zero, Option.some.injEq] at h
    subst h
    exact List.mem_cons.mpr (Or.inl (by simp))
  | o' :: l, lo, k + 1, o, h => by
    simp only [List.getElem?_cons_succ] at h
    have := jtz_ok (lo := lo + 1) h
    refine List.mem_cons.mpr (Or.inr ?_)
    rw [show lo + ((k + 1 : Nat) : Int) = lo + 1 + (k : Int) by push_cast; omega]
    exact this
theorem joff_ok : ∀ (l : List (Int × Int)) (d k : Int), Op.lookupswitch.offset l d k = d ∨ (k, Op.lookupswitch.offset l d k) ∈ l
  | [], d, k => Or.inl rfl
  | (a, o) :: l, d, k => by
    rw [Op.lookupswitch.offset_cons]
    split
    next h => subst h; exact Or.inr List.mem_cons_self
    next h => exact (joff_ok l d k).imp_right (List.mem_cons_of_mem _)
theorem jxt {pc : Nat} {L : List (Int × Int)} {v o : Int} (h : L.all (fun q => (xtg pc q.2).isSome) = true) (m : (v, o) ∈ L) : ∃ t, xtg pc o = some t := Option.isSome_iff_exists.mp (List.all_eq_true.mp h _ m)
set_option maxHeartbeats 1000000 in
theorem jbr_ok {G : jGt} {r : jP} {g : jS} {p : xH} {i : Instr} {pc : Nat} {ast : List jV} {st : List Value} {l : List (Nat × List jV × jS)} (h : jSt G r g p) (e : jbr i pc ast g = some l) (hs : jSl r ast st) :
    (∀ own nL ls, xs1 own nL i ls st = none) ∧ ∃ u ∈ l, ∃ st' r', xbr i pc st = some (u.1, st') ∧ jLe r r' ∧ jSt G r' u.2.2 p ∧ jSl r' u.2.1 st' := by
  unfold jbr at e
  split at e
  next =>
    obtain ⟨t, ht, hh⟩ := xmap e
    cases hh
    exact ⟨fun _ _ _ => rfl, _, List.mem_singleton.mpr rfl, st, r, by simp only [xbr, ht, Option.map_some], jLe.refl r, h, hs⟩
  next c o a ast0 =>
    split at e
    next lo hi t hb ht =>
      obtain ⟨w, vs, rfl, g1, g2⟩ := hs.cons
      obtain ⟨x, rfl, -⟩ := (jbd_ok h.2.1 hb g1).int
      refine ⟨fun _ _ _ => rfl, ?_⟩
      split at e
      next q hq =>
        cases e
        obtain ⟨q1, q2⟩ := q
        unfold jlc at hq
        split at hq
        next s =>
          split at hq
          next row hrow =>
            split at hq
            next a1 a2 hd =>
              cases hq
              obtain ⟨w, w1, w2, w3⟩ := jrow_of h.2.1 hrow
              rw [hd] at w3
              obtain ⟨x1, y1, w4, w5, -, w7⟩ := w3
              obtain ⟨w7, k1, k2⟩ := w7 (fun z => by cases z)
              obtain ⟨u1, rfl, -⟩ := (show jI 1 (jz x1) (jz x1) x1 from ⟨k1, Int.le_refl _, Int.le_refl _⟩).long
              obtain ⟨u2, rfl, -⟩ := (show jI 1 (jz y1) (jz y1) y1 from ⟨k2, Int.le_refl _, Int.le_refl _⟩).long
              have w7 : some (Value.int (lg_cmp u1 u2)) = some w := w7
              cases w7
              cases g1.one (show jR r (.inr s) _ from w1)
              have hB : xcmp c (lg_cmp u1 u2) 0 = true ↔ jcd c (jz (.long u1)) (jz (.long u2)) := by
                rw [xcmp_j]
                show jcd c (lg_cmp u1 u2).toInt 0 ↔ jcd c u1.toInt u2.toInt
                obtain ⟨j1, j2, j3⟩ := jlg u1 u2
                have hm1 : (-1 : Int32).toInt = -1 := by decide
                have hm2 : (1 : Int32).toInt = 1 := by decide
                have hm3 : (0 : Int32).toInt = 0 := by decide
                rcases Int.lt_trichotomy u1.toInt u2.toInt with z | z | z
                · rw [j1 z, hm1]; cases c <;> simp only [jcd] <;> constructor <;> intro _ <;> omega
                · rw [j3 z, hm3, z]; cases c <;> simp [jcd]
                · rw [j2 z, hm2]; cases c <;> simp only [jcd] <;> constructor <;> intro _ <;> omega
              obtain ⟨u, m, r', b1, b2, b3, b4⟩ := jb2_ok (t := t) (f := pc + 3) (st := ast0) h w4 w5 hB
              exact ⟨u, m, vs, r', by simp only [xbr, ht, Option.map_some, b1], b3, b4, by rw [b2]; exact g2.mono b3⟩
            next => cases hq
          next => cases hq
        next => cases hq
      next =>
        cases e
        obtain ⟨u, m, r', b1, b2, b3, b4⟩ := jb2_ok (c := c) (B := xcmp c x 0) (t := t) (f := pc + 3) (st := ast0) h g1 (show jR r (.inl (.int 0)) (.int 0) from rfl) (by rw [xcmp_j]; rfl)
        exact ⟨u, m, vs, r', by simp only [xbr, ht, Option.map_some, b1], b3, b4, by rw [b2]; exact g2.mono b3⟩
    next => cases e
  next c o b a ast0 =>
    split at e
    next lo hi lo2 hi2 t ha hb ht =>
      cases e
      obtain ⟨w1, vs1, rfl, g1, g2⟩ := hs.cons
      obtain ⟨w2, vs2, rfl, g3, g4⟩ := g2.cons
      obtain ⟨y, rfl, -⟩ := (jbd_ok h.2.1 hb g1).int
      obtain ⟨x, rfl, -⟩ := (jbd_ok h.2.1 ha g3).int
      obtain ⟨u, m, r', b1, b2, b3, b4⟩ := jb2_ok (c := c) (B := xcmp c x y) (t := t) (f := pc + 3) (st := ast0) h g3 g1 xcmp_j
      exact ⟨fun _ _ _ => rfl, u, m, vs2, r', by simp only [xbr, ht, Option.map_some, b1], b3, b4, by rw [b2]; exact g4.mono b3⟩
    next => cases e
  next d lo hi offs a ast0 =>
    split at e
    next l1 h1 t hb ht =>
      obtain ⟨hz, e⟩ := xbif e
      cases e
      simp only [Bool.and_eq_true, decide_eq_true_eq] at hz
      obtain ⟨w, vs, rfl, g1, g2⟩ := hs.cons
      obtain ⟨x, rfl, -⟩ := (jbd_ok h.2.1 hb g1).int
      refine ⟨fun _ _ _ => rfl, ?_⟩
      by_cases hlo : x.toInt < lo
      · obtain ⟨g3, e1, e2⟩ := jcut_ok 4 (lo := -9223372036854775808) (hi := lo - 1) h g1 (jzb _).1 (by show x.toInt ≤ _; omega)
        exact ⟨(t, ast0, g3), List.mem_append.mpr (Or.inl (List.mem_map.mpr ⟨g3, jmem e1, rfl⟩)), vs, r, by simp only [xbr]; rw [if_pos (Or.inl hlo), ht]; rfl, jLe.refl r, e2, g2⟩
      · by_cases hhi : hi < x.toInt
        · obtain ⟨g3, e1, e2⟩ := jcut_ok 4 (lo := hi + 1) (hi := 9223372036854775807) h g1 (by show _ ≤ x.toInt; omega) (jzb _).2
          exact ⟨(t, ast0, g3), List.mem_append.mpr (Or.inr (List.mem_append.mpr (Or.inl (List.mem_map.mpr ⟨g3, jmem e1, rfl⟩)))), vs, r, by simp only [xbr]; rw [if_pos (Or.inr hhi), ht]; rfl, jLe.refl r, e2, g2⟩
        · have hk : (x.toInt - lo).toNat < offs.toList.length := by rw [hz.2]; omega
          have ho := List.getElem?_eq_getElem hk
          have hm := jtz_ok (lo := lo) ho
          rw [show lo + ((x.toInt - lo).toNat : Int) = x.toInt by omega] at hm
          obtain ⟨t2, ht2⟩ := jxt hz.1 hm
          obtain ⟨g3, e1, e2⟩ := jsk_ok (st := ast0) h g1 hm hz.1 rfl ht2
          refine ⟨(t2, ast0, g3), List.mem_append.mpr (Or.inr (List.mem_append.mpr (Or.inr e1))), vs, r, ?_, jLe.refl r, e2, g2⟩
          simp only [xbr]
          rw [if_neg (by omega), ← Array.getElem?_toList, ho]
          dsimp only
          rw [ht2]
          rfl
    next => cases e
  next d ps a ast0 =>
    split at e
    next l1 h1 t hb ht =>
      obtain ⟨hz, e⟩ := xbif e
      cases e
      simp only [Bool.and_eq_true] at hz
      obtain ⟨w, vs, rfl, g1, g2⟩ := hs.cons
      obtain ⟨x, rfl, -⟩ := (jbd_ok h.2.1 hb g1).int
      refine ⟨fun _ _ _ => rfl, ?_⟩
      obtain ⟨t3, ht3⟩ : ∃ t3, xtg pc (Op.lookupswitch.offset ps.toList d x.toInt) = some t3 := by
        rcases joff_ok ps.toList d x.toInt with z | z
        · rw [z]; exact ⟨t, ht⟩
        · exact jxt hz.2 z
      have hbr : xbr (.lookupswitch d ps) pc (.int x :: vs) = some (t3, vs) := by simp only [xbr]; rw [hz.1, ht3]; rfl
      split
      next x' hx' =>
        have := jnm_ok h.2.1 g1
        rw [hx'] at this
        cases this
        rw [ht3]
        exact ⟨(t3, ast0, g), List.mem_singleton.mpr rfl, vs, r, hbr, jLe.refl r, h, g2⟩
      next =>
        rcases joff_ok ps.toList d x.toInt with z | z
        · rw [z, ht] at ht3
          cases ht3
          exact ⟨(t, ast0, g), List.mem_cons_self, vs, r, hbr, jLe.refl r, h, g2⟩
        · obtain ⟨g3, e1, e2⟩ := jsk_ok (st := ast0) h g1 z hz.2 rfl ht3
          exact ⟨(t3, ast0, g3), List.mem_cons_of_mem _ e1, vs, r, hbr, jLe.refl r, e2, g2⟩
    next => cases e
  next => cases e
end
section
/-! the bounded machine is sound: cells -/
def jWf (W : List (Nat × Nat)) (p0 p : xH) : Prop := (p.map fun c => (c.1, c.2.length)) = (p0.map fun c => (c.1, c.2.length)) ∧ ∀ (r k : Nat) (c0 c : xE), p0[r]? = some c0 → p[r]? = some c → jw W r k = false → c.2[k]? = c0.2[k]?
theorem jWf.refl (W : List (Nat × Nat)) (p : xH) : jWf W p p := ⟨rfl, fun r k c0 c h1 h2 _ => by rw [h1] at h2; cases h2; rfl⟩
theorem jset_map {α β : Type} (f : α → β) : ∀ (l : List α) (k : Nat) (c c' : α), l[k]? = some c → f c' = f c → (l.set k c').map f = l.map f
  | [], k, c, c', h, _ => by simp at h
  | a :: l, 0, c, c', h, e => by
    simp only [List.getElem?_cons_zero, Option.some.injEq] at h
    subst h
    simp [e]
  | a :: l, k + 1, c, c', h, e => by
    simp only [List.getElem?_cons_succ] at h
    simp [jset_map f l k c c' h e]
theorem jWf.set {W : List (Nat × Nat)} {p0 p : xH} (h : jWf W p0 p) {r : Nat} {c c' : xE} (hc : p[r]? = some c) (h1 : c'.1 = c.1) (h2 : c'.2.length = c.2.length) (h3 : ∀ k, jw W r k = false → c'.2[k]? = c.2[k]?) : jWf W p0 (p.set r c') := by
  refine ⟨(jset_map _ p r c c' hc (by rw [h1, h2])).trans h.1, fun r' k c0 c1 e0 e1 ew => ?_⟩
  by_cases hr : r = r'
  · subst hr
    rw [List.getElem?_set_self (List.getElem?_eq_some_iff.mp hc).1] at e1
    cases e1
    rw [h3 k ew]
    exact h.2 r k c0 c e0 hc ew
  · rw [List.getElem?_set_ne hr] at e1
    exact h.2 r' k c0 c1 e0 e1 ew
theorem jWf.get {W : List (Nat × Nat)} {p0 p : xH} (h : jWf W p0 p) {r : Nat} {c : xE} (hc : p[r]? = some c) : ∃ c0, p0[r]? = some c0 ∧ c0.1 = c.1 ∧ c0.2.length = c.2.length := by
  have h1 : (p.map fun c => (c.1, c.2.length))[r]? = (p0.map fun c => (c.1, c.2.length))[r]? := by rw [h.1]
  rw [List.getElem?_map, List.getElem?_map, hc] at h1
  cases h0 : p0[r]? with
  | none => rw [h0] at h1; cases h1
  | some c0 =>
    rw [h0] at h1
    have h1 : (c.1, c.2.length) = (c0.1, c0.2.length) := Option.some.inj h1
    cases c; cases c0
    simp only [Prod.mk.injEq] at h1
    exact ⟨_, rfl, h1.1.symm, h1.2.symm⟩
theorem jWf.trans {W V : List (Nat × Nat)} {p0 p p1 : xH} (h : jWf W p0 p) (k : jWf V p p1) (hV : ∀ r j, jw V r j = true → jw W r j = true) : jWf W p0 p1 := by
  refine ⟨k.1.trans h.1, fun r j c0 c1 e0 e1 ew => ?_⟩
  obtain ⟨c, e2, -, -⟩ := k.get e1
  have hv : jw V r j = false := by
    cases hq : jw V r j with
    | false => rfl
    | true => rw [hV r j hq] at ew; cases ew
  rw [k.2 r j c c1 e2 e1 hv]
  exact h.2 r j c0 c e0 e2 ew
theorem jmg_ok : ∀ {m : jM} {r k : Nat} {a : jV}, jmg m r k = some a → ((r, k), a) ∈ m
  | [], _, _, _, h => by cases h
  | q :: t, r, k, a, h => by
    unfold jmg at h
    cases hb : (Nat.beq q.1.1 r && Nat.beq q.1.2 k) with
    | true =>
      rw [hb] at h
      cases h
      simp only [Bool.and_eq_true] at hb
      have h1 := Nat.eq_of_beq_eq_true hb.1
      have h2 := Nat.eq_of_beq_eq_true hb.2
      subst h1 h2
      exact List.mem_cons_self
    | false => rw [hb] at h; exact List.mem_cons_of_mem _ (jmg_ok h)
/-- a number for what stands in a cell, kept by place -/
theorem jSt.put1 {G : jGt} {w : jP} {g : jS} {p : xH} (h : jSt G w g p) {r k : Nat} {c : xE} {v : Value} (hc : p[r]? = some c) (hv : c.2[k]? = some v) {q : jRow} (h1 : jI q.1 q.2.1 q.2.2.1 v) (h2 : jDf w q.2.2.2 v) :
    jLe w (w ++ [.inl v]) ∧ jSt G (w ++ [.inl v]) (g.1 + 1, (g.1, q) :: g.2.1, ((r, k), .inr g.1) :: g.2.2.1, g.2.2.2) p ∧ jR (w ++ [.inl v]) (.inr g.1) v := by
  obtain ⟨l1, ⟨a1, a2, a3, a4, a5⟩, l3⟩ := jfr_ok h h1 h2
  refine ⟨l1, ⟨a1, a2, fun e he => ?_, a4, a5⟩, l3⟩
  rcases List.mem_cons.mp he with rfl | he
  · exact ⟨c, v, hc, hv, l3⟩
  · exact a3 e he
theorem jSt.put2 {G : jGt} {w : jP} {g : jS} {p : xH} (h : jSt G w g p) {r s : Nat} {j : Int32} {c : xE} {v : Value} (hc : p[r]? = some c) (hj : w[s]? = some (.inl (.int j))) (hj0 : 0 ≤ j.toInt) (hv : c.2[j.toNatClampNeg]? = some v) {q : jRow} (h1 : jI q.1 q.2.1 q.2.2.1 v) (h2 : jDf w q.2.2.2 v) :
    jLe w (w ++ [.inl v]) ∧ jSt G (w ++ [.inl v]) (g.1 + 1, (g.1, q) :: g.2.1, g.2.2.1, ((r, s), .inr g.1) :: g.2.2.2) p ∧ jR (w ++ [.inl v]) (.inr g.1) v := by
  obtain ⟨l1, ⟨a1, a2, a3, a4, a5⟩, l3⟩ := jfr_ok h h1 h2
  refine ⟨l1, ⟨a1, a2, a3, fun e he => ?_, a5⟩, l3⟩
  rcases List.mem_cons.mp he with rfl | he
  · exact ⟨c, j, v, hc, l1.get hj, hj0, hv, l3⟩
  · exact a4 e he
theorem jfl_ok {G : jGt} {w : jP} {g g' : jS} {p : xH} {r k : Nat} {a : jV} (h : jSt G w g p) (e : jfl G g r k = some (a, g')) :
    ∃ c v w', p[r]? = some c ∧ c.2[k]? = some v ∧ jLe w w' ∧ jSt G w' g' p ∧ jR w' a v := by
  unfold jfl at e
  split at e
  next t fs hg =>
    obtain ⟨c, hc, hc1, hc2⟩ := h.2.2.2.2 _ _ hg
    have hc2 : c.2.length = fs.length ∧ ∀ (k : Nat) (b : Value ⊕ (Int × Int)), fs[k]? = some b → ∃ v, c.2[k]? = some v ∧ gFd b v := hc2
    split at e
    next v hf =>
      cases e
      obtain ⟨v', hv', e2⟩ := hc2.2 _ _ hf
      have e2 : v' = v := e2
      subst e2
      exact ⟨c, v', w, hc, hv', jLe.refl w, h, rfl⟩
    next b hf =>
      obtain ⟨v, hv, hi⟩ := hc2.2 _ _ hf
      split at e
      next a0 hm =>
        cases e
        obtain ⟨c', v', m1, m2, m3⟩ := h.2.2.1 _ (jmg_ok hm)
        exact ⟨c', v', w, m1, m2, jLe.refl w, h, jnm_ok h.2.1 m3⟩
      next hm =>
        cases e
        obtain ⟨l1, l2, l3⟩ := h.put1 hc hv (q := (0, b.1, b.2, none)) hi trivial
        exact ⟨c, v, _, hc, hv, l1, l2, l3⟩
    next => cases e
  next => cases e
theorem gOk_set {g : jG1} {c : xE} {fs : List (Value ⊕ (Int × Int))} {k : Nat} {b : Int × Int} {v : Value} (h : gOk g c) (hg : g.2 = .inl fs) (hf : fs[k]? = some (.inr b)) (hv : jI 0 b.1 b.2 v) : gOk g (c.1, c.2.set k v) := by
  obtain ⟨h1, h2⟩ := h
  refine ⟨h1, ?_⟩
  rw [hg] at h2 ⊢
  have h2 : c.2.length = fs.length ∧ ∀ (k : Nat) (b : Value ⊕ (Int × Int)), fs[k]? = some b → ∃ v, c.2[k]? = some v ∧ gFd b v := h2
  refine ⟨by rw [List.length_set]; exact h2.1, fun j b' hj => ?_⟩
  by_cases hk : k = j
  · subst hk
    rw [hf] at hj
    cases hj
    exact ⟨v, List.getElem?_set_self (by rw [h2.1]; exact (List.getElem?_eq_some_iff.mp hf).1), hv⟩
  · rw [List.getElem?_set_ne hk]
    exact h2.2 j b' hj
theorem gOk_seta {g : jG1} {c : xE} {n : Nat} {lo hi : Int} {k : Nat} {v : Value} (h : gOk g c) (hg : g.2 = .inr (n, lo, hi)) (hv : jI (if g.1 = 102 then 1 else 0) lo hi v) : gOk g (c.1, c.2.set k v) := by
  obtain ⟨h1, h2⟩ := h
  refine ⟨h1, ?_⟩
  rw [hg] at h2 ⊢
  have h2 : c.2.length = n ∧ ∀ v ∈ c.2, jI (if g.1 = 102 then 1 else 0) lo hi v := h2
  refine ⟨by rw [List.length_set]; exact h2.1, fun u hu => ?_⟩
  rcases List.mem_or_eq_of_mem_set hu with z | z
  · exact h2.2 u z
  · subst z; exact hv
theorem GH_set {G : jGt} {p : xH} (h : GH G p) {r : Nat} {g : jG1} {c' : xE} (hg : jgc G r = some g) (hk : gOk g c') : GH G (p.set r c') := by
  intro r' g' hg'
  obtain ⟨c, hc, hok⟩ := h r' g' hg'
  by_cases hr : r = r'
  · subst hr
    rw [hg] at hg'
    cases hg'
    exact ⟨c', List.getElem?_set_self (List.getElem?_eq_some_iff.mp hc).1, hk⟩
  · exact ⟨c, by rw [List.getElem?_set_ne hr]; exact hc, hok⟩
theorem jC1.other {w : jP} {p : xH} {r : Nat} {c' : xE} {e : (Nat × Nat) × jV} (h : jC1 w p e) (hr : e.1.1 ≠ r) : jC1 w (p.set r c') e := by
  obtain ⟨c, v, h1, h2, h3⟩ := h
  exact ⟨c, v, by rw [List.getElem?_set_ne (Ne.symm hr)]; exact h1, h2, h3⟩
theorem jC2.other {w : jP} {p : xH} {r : Nat} {c' : xE} {e : (Nat × Nat) × jV} (h : jC2 w p e) (hr : e.1.1 ≠ r) : jC2 w (p.set r c') e := by
  obtain ⟨c, j, v, h1, h2, h3, h4, h5⟩ := h
  exact ⟨c, j, v, by rw [List.getElem?_set_ne (Ne.symm hr)]; exact h1, h2, h3, h4, h5⟩
theorem jC1.same {w : jP} {p : xH} {r k : Nat} {c : xE} {u : Value} (hc : p[r]? = some c) {e : (Nat × Nat) × jV} (h : jC1 w p e) (hr : ¬ (e.1.1 = r ∧ e.1.2 = k)) : jC1 w (p.set r (c.1, c.2.set k u)) e := by
  by_cases h0 : e.1.1 = r
  · obtain ⟨c1, v, h1, h2, h3⟩ := h
    rw [h0, hc] at h1
    cases h1
    refine ⟨(c.1, c.2.set k u), v, ?_, ?_, h3⟩
    · rw [h0]; exact List.getElem?_set_self (List.getElem?_eq_some_iff.mp hc).1
    · rw [List.getElem?_set_ne (fun z => hr ⟨h0, z.symm⟩)]; exact h2
  · exact h.other h0
theorem jwb {b c : Bool} (h : (!(b && c)) = true) : ¬ (b = true ∧ c = true) := fun z => by rw [z.1, z.2] at h; cases h
theorem jnb1 {a b : Nat} (h : (!Nat.beq a b) = true) : a ≠ b := fun z => by subst z; rw [Nat.beq_refl] at h; cases h
theorem jpt_ok {G : jGt} {W : List (Nat × Nat)} {w : jP} {g g' : jS} {p : xH} {r k : Nat} {a : jV} {v : Value} (h : jSt G w g p) (e : jpt G W g r k a = some g') (hv : jR w a v) :
    ∃ (c : xE) (b : Int × Int), p[r]? = some c ∧ jI 0 b.1 b.2 v ∧ k < c.2.length ∧ jSt G w g' (p.set r (c.1, c.2.set k v)) ∧ (∀ p0, jWf W p0 p → jWf W p0 (p.set r (c.1, c.2.set k v))) := by
  unfold jpt at e
  split at e
  next t fs hg =>
    obtain ⟨c, hc, hok⟩ := h.2.2.2.2 _ _ hg
    have hc2 : c.2.length = fs.length ∧ ∀ (k : Nat) (b : Value ⊕ (Int × Int)), fs[k]? = some b → ∃ v, c.2[k]? = some v ∧ gFd b v := hok.2
    split at e
    next b hf =>
      obtain ⟨hz, e⟩ := xbif e
      cases e
      simp only [Bool.and_eq_true] at hz
      have hi := jin_ok h.2.1 hz.1 hv
      have hk : k < c.2.length := by rw [hc2.1]; exact (List.getElem?_eq_some_iff.mp hf).1
      refine ⟨c, b, hc, hi, hk, ⟨h.1, h.2.1, fun q hq => ?_, fun q hq => ?_, GH_set h.2.2.2.2 hg (gOk_set hok rfl hf hi)⟩, fun p0 hp => hp.set hc rfl (by simp) (fun j hj => ?_)⟩
      · rcases List.mem_cons.mp hq with rfl | hq
        · exact ⟨_, v, List.getElem?_set_self (List.getElem?_eq_some_iff.mp hc).1, List.getElem?_set_self hk, jnm_ok h.2.1 hv⟩
        · obtain ⟨m1, m2⟩ := List.mem_filter.mp hq
          exact (h.2.2.1 q m1).same hc (fun z => jwb m2 ⟨by rw [z.1]; exact Nat.beq_refl _, by rw [z.2]; exact Nat.beq_refl _⟩)
      · obtain ⟨m1, m2⟩ := List.mem_filter.mp hq
        exact (h.2.2.2.1 q m1).other (jnb1 m2)
      · have : k ≠ j := fun z => by subst z; rw [hz.2] at hj; cases hj
        show (c.2.set k v)[j]? = _
        rw [List.getElem?_set_ne this]
    next => cases e
  next => cases e
theorem jwa_w {W : List (Nat × Nat)} {r : Nat} (h : jwa W r = true) (k : Nat) : jw W r k = true := by
  unfold jwa at h
  unfold jw
  rw [List.any_eq_true] at h ⊢
  obtain ⟨x, h1, h2⟩ := h
  rw [Bool.and_eq_true] at h2
  exact ⟨x, h1, by rw [h2.1, h2.2]; rfl⟩
theorem jidx {x : Int32} {n : Nat} (h0 : 0 ≤ x.toInt) (h1 : x.toInt ≤ (n : Int) - 1) : ¬ x < 0 ∧ x.toNatClampNeg < n := by
  refine ⟨fun z => ?_, ?_⟩
  · have := Int32.lt_iff_toInt_lt.mp z
    have h3 : (0 : Int32).toInt = 0 := by decide
    omega
  · have h9 : (x.toNatClampNeg : Int) = ((x.toInt.toNat : Nat) : Int) := rfl
    omega
theorem jal_ok {G : jGt} {w : jP} {g g' : jS} {p : xH} {t r : Nat} {j a : jV} {u : Value} (h : jSt G w g p) (e : jal G g t r j = some (a, g')) (hu : jR w j u) :
    ∃ x c v w' lo hi, u = .int x ∧ ¬ x < 0 ∧ p[r]? = some c ∧ c.1 = t ∧ c.2[x.toNatClampNeg]? = some v ∧ jI (if t = 102 then 1 else 0) lo hi v ∧ jLe w w' ∧ jSt G w' g' p ∧ jR w' a v := by
  unfold jal at e
  split at e
  next t' b hg =>
    obtain ⟨hz, e9⟩ := xbif e
    clear e
    rw [Bool.and_eq_true] at hz
    have ht := Nat.eq_of_beq_eq_true hz.1
    subst ht
    obtain ⟨x, rfl, x0, x1⟩ := (jin_ok h.2.1 hz.2 hu).int
    obtain ⟨y0, y1⟩ := jidx x0 x1
    obtain ⟨c, hc, hok⟩ := h.2.2.2.2 _ _ hg
    have hc2 : c.2.length = b.1 ∧ ∀ v ∈ c.2, jI (if t = 102 then 1 else 0) b.2.1 b.2.2 v := hok.2
    have hlt : x.toNatClampNeg < c.2.length := by rw [hc2.1]; exact y1
    have hget := List.getElem?_eq_getElem hlt
    have hI := hc2.2 _ (List.getElem_mem hlt)
    have hI2 : jI (bif Nat.beq t 102 then 1 else 0) b.2.1 b.2.2 (c.2[x.toNatClampNeg]) := by
      cases hb : Nat.beq t 102 with
      | true => have := Nat.eq_of_beq_eq_true hb; subst this; exact hI
      | false => rw [if_neg (fun z => by subst z; cases hb)] at hI; exact hI
    split at e9
    next x' hx' =>
      have hq := jnm_ok h.2.1 hu
      rw [hx'] at hq
      cases hq
      split at e9
      next a0 hm =>
        cases e9
        obtain ⟨c', v', m1, m2, m3⟩ := h.2.2.1 _ (jmg_ok hm)
        rw [hc] at m1
        cases m1
        refine ⟨x, c, v', w, b.2.1, b.2.2, rfl, y0, hc, hok.1, m2, ?_, jLe.refl w, h, jnm_ok h.2.1 m3⟩
        exact hc2.2 _ (List.mem_of_getElem? m2)
      next hm =>
        cases e9
        obtain ⟨l1, l2, l3⟩ := h.put1 hc hget (q := (bif Nat.beq t 102 then 1 else 0, b.2.1, b.2.2, none)) hI2 trivial
        exact ⟨x, c, _, _, b.2.1, b.2.2, rfl, y0, hc, hok.1, hget, hI, l1, l2, l3⟩
    next s hs =>
      have hq := jnm_ok h.2.1 hu
      rw [hs] at hq
      have hq : w[s]? = some (.inl (.int x)) := hq
      split at e9
      next a0 hm =>
        cases e9
        obtain ⟨c', j', v', m1, m2, m3, m4, m5⟩ := h.2.2.2.1 _ (jmg_ok hm)
        rw [hc] at m1
        cases m1
        have m2 : w[s]? = some (.inl (.int j')) := m2
        rw [hq] at m2
        cases m2
        exact ⟨x, c, v', w, b.2.1, b.2.2, rfl, y0, hc, hok.1, m4, hc2.2 _ (List.mem_of_getElem? m4), jLe.refl w, h, jnm_ok h.2.1 m5⟩
      next hm =>
        cases e9
        obtain ⟨l1, l2, l3⟩ := h.put2 hc hq x0 hget (q := (bif Nat.beq t 102 then 1 else 0, b.2.1, b.2.2, none)) hI2 trivial
        exact ⟨x, c, _, _, b.2.1, b.2.2, rfl, y0, hc, hok.1, hget, hI, l1, l2, l3⟩
    next => cases e9
  next => cases e
theorem jas_ok {G : jGt} {W : List (Nat × Nat)} {w : jP} {g g' : jS} {p : xH} {t r : Nat} {j a : jV} {u v : Value} (h : jSt G w g p) (e : jas G W g t r j a = some g') (hu : jR w j u) (hv : jR w a v) :
    ∃ x c lo hi, u = .int x ∧ ¬ x < 0 ∧ p[r]? = some c ∧ c.1 = t ∧ x.toNatClampNeg < c.2.length ∧ jI (if t = 102 then 1 else 0) lo hi v ∧ jSt G w g' (p.set r (c.1, c.2.set x.toNatClampNeg v)) ∧ (∀ p0, jWf W p0 p → jWf W p0 (p.set r (c.1, c.2.set x.toNatClampNeg v))) := by
  unfold jas at e
  split at e
  next t' b hg =>
    obtain ⟨hz, e9⟩ := xbif e
    clear e
    simp only [Bool.and_eq_true] at hz
    have ht := Nat.eq_of_beq_eq_true hz.1.1.1
    subst ht
    obtain ⟨x, rfl, x0, x1⟩ := (jin_ok h.2.1 hz.1.1.2 hu).int
    obtain ⟨y0, y1⟩ := jidx x0 x1
    obtain ⟨c, hc, hok⟩ := h.2.2.2.2 _ _ hg
    have hc2 : c.2.length = b.1 ∧ ∀ v ∈ c.2, jI (if t = 102 then 1 else 0) b.2.1 b.2.2 v := hok.2
    have hlt : x.toNatClampNeg < c.2.length := by rw [hc2.1]; exact y1
    have hI0 := jin_ok h.2.1 hz.1.2 hv
    have hI : jI (if t = 102 then 1 else 0) b.2.1 b.2.2 v := by
      cases hb : Nat.beq t 102 with
      | true => have := Nat.eq_of_beq_eq_true hb; subst this; exact hI0
      | false => rw [if_neg (fun z => by subst z; cases hb)]; rw [hb] at hI0; exact hI0
    have hG := GH_set h.2.2.2.2 hg (gOk_seta (k := x.toNatClampNeg) hok rfl hI)
    have hF : ∀ p0, jWf W p0 p → jWf W p0 (p.set r (c.1, c.2.set x.toNatClampNeg v)) := fun p0 hp => hp.set hc rfl (by simp) (fun i hi => by rw [jwa_w hz.2 i] at hi; cases hi)
    split at e9
    next x' hx' =>
      have hq := jnm_ok h.2.1 hu
      rw [hx'] at hq
      cases hq
      cases e9
      refine ⟨x, c, b.2.1, b.2.2, rfl, y0, hc, hok.1, hlt, hI, ⟨h.1, h.2.1, fun q hq => ?_, fun q hq => ?_, hG⟩, hF⟩
      · rcases List.mem_cons.mp hq with rfl | hq
        · exact ⟨_, v, List.getElem?_set_self (List.getElem?_eq_some_iff.mp hc).1, List.getElem?_set_self hlt, jnm_ok h.2.1 hv⟩
        · obtain ⟨m1, m2⟩ := List.mem_filter.mp hq
          exact (h.2.2.1 q m1).same hc (fun z => jwb m2 ⟨by rw [z.1]; exact Nat.beq_refl _, by rw [z.2]; exact Nat.beq_refl _⟩)
      · obtain ⟨m1, m2⟩ := List.mem_filter.mp hq
        exact (h.2.2.2.1 q m1).other (jnb1 m2)
    next s hs =>
      have hq0 := jnm_ok h.2.1 hu
      rw [hs] at hq0
      have hq0 : w[s]? = some (.inl (.int x)) := hq0
      cases e9
      refine ⟨x, c, b.2.1, b.2.2, rfl, y0, hc, hok.1, hlt, hI, ⟨h.1, h.2.1, fun q hq => ?_, fun q hq => ?_, hG⟩, hF⟩
      · obtain ⟨m1, m2⟩ := List.mem_filter.mp hq
        exact (h.2.2.1 q m1).other (jnb1 m2)
      · rcases List.mem_cons.mp hq with rfl | hq
        · exact ⟨_, x, v, List.getElem?_set_self (List.getElem?_eq_some_iff.mp hc).1, hq0, x0, List.getElem?_set_self hlt, jnm_ok h.2.1 hv⟩
        · obtain ⟨m1, m2⟩ := List.mem_filter.mp hq
          exact (h.2.2.2.1 q m1).other (jnb1 m2)
    next => cases e9
  next => cases e
def jro (ro : List (List Int32)) : Prop := ro[1]? = some xsv1 ∧ ro[2]? = some xsv2
theorem jsv_ok : (xsv1.all fun x => decide (0 ≤ x.toInt) && decide (x.toInt ≤ 81)) = true ∧ (xsv2.all fun x => decide (0 ≤ x.toInt) && decide (x.toInt ≤ 81)) = true := ⟨by decide +kernel, by decide +kernel⟩
theorem jst_ok {G : jGt} {ro : List (List Int32)} (hro : jro ro) {w : jP} {g g' : jS} {p : xH} {q : Nat} {j a : jV} {u : Value} (h : jSt G w g p) (e : jst g q j = some (a, g')) (hu : jR w j u) :
    ∃ x xs v w', u = .int x ∧ ¬ x < 0 ∧ ro[q]? = some xs ∧ xs[x.toNatClampNeg]? = some v ∧ jLe w w' ∧ jSt G w' g' p ∧ jR w' a (.int v) := by
  unfold jst at e
  split at e
  next vs hvs =>
    have hvs2 : ro[q]? = some vs ∧ (vs.all fun x => decide (0 ≤ x.toInt) && decide (x.toInt ≤ 81)) = true := by
      cases h1 : Nat.beq q 1 with
      | true => rw [h1] at hvs; cases hvs; have := Nat.eq_of_beq_eq_true h1; subst this; exact ⟨hro.1, jsv_ok.1⟩
      | false =>
        rw [h1, cond_false] at hvs
        cases h2 : Nat.beq q 2 with
        | true => rw [h2] at hvs; cases hvs; have := Nat.eq_of_beq_eq_true h2; subst this; exact ⟨hro.2, jsv_ok.2⟩
        | false => rw [h2] at hvs; cases hvs
    obtain ⟨hz, e⟩ := xbif e
    obtain ⟨x, rfl, x0, x1⟩ := (jin_ok h.2.1 hz hu).int
    obtain ⟨y0, y1⟩ := jidx x0 x1
    have hget := List.getElem?_eq_getElem y1
    split at e
    next x' hx' =>
      have hq := jnm_ok h.2.1 hu
      rw [hx'] at hq
      cases hq
      obtain ⟨v, hv, e2⟩ := xmap e
      cases e2
      exact ⟨x, vs, v, w, rfl, y0, hvs2.1, hv, jLe.refl w, h, rfl⟩
    next =>
      cases e
      have hI := List.all_eq_true.mp hvs2.2 _ (List.getElem_mem y1)
      simp only [Bool.and_eq_true, decide_eq_true_eq] at hI
      obtain ⟨l1, l2, l3⟩ := jfr_ok h (q := (0, 0, 81, none)) (v := .int vs[x.toNatClampNeg]) ⟨rfl, hI.1, hI.2⟩ trivial
      exact ⟨x, vs, _, _, rfl, y0, hvs2.1, hget, l1, l2, l3⟩
  next => cases e
theorem j01 {v : Value} (h : jI 0 0 1 v) : ∃ x : Int32, v = .int x ∧ (x == 0 || x == 1) = true := by
  obtain ⟨x, rfl, h1, h2⟩ := h.int
  refine ⟨x, rfl, ?_⟩
  have h0 : (0 : Int32).toInt = 0 := by decide
  have h3 : (1 : Int32).toInt = 1 := by decide
  rcases (show x.toInt = 0 ∨ x.toInt = 1 by omega) with z | z
  · have : x = 0 := Int32.toInt_inj.mp (by omega)
    subst this; rfl
  · have : x = 1 := Int32.toInt_inj.mp (by omega)
    subst this; rfl
set_option maxHeartbeats 4000000 in
theorem jho_ok {G : jGt} {W : List (Nat × Nat)} {ro : List (List Int32)} (hro : jro ro) {own : Nat} {i : Instr} {ast ast' : List jV} {w : jP} {g g' : jS} {st : List Value} {p : xH} (h : jSt G w g p) (e : jho G W own i ast g = some (ast', g')) (hs : jSl w ast st) :
    (∀ own nL ls, xs1 own nL i ls st = none) ∧ (∀ pc, xbr i pc st = none) ∧ ∃ st' p' w', (∀ kind, xho ro own kind i st p = some (st', p')) ∧ jLe w w' ∧ jSt G w' g' p' ∧ jSl w' ast' st' ∧ (∀ p0, jWf W p0 p → jWf W p0 p') := by
  unfold jho at e
  split at e
  next idx r st0 =>
    obtain ⟨w1, vs1, rfl, g1, g2⟩ := hs.cons
    cases g1
    split at e
    next ci k pl t fs hf hg =>
      obtain ⟨ht, e⟩ := xbif e
      obtain ⟨z, hz, e⟩ := xmap e
      cases e
      obtain ⟨c, v, w', c1, c2, l1, l2, l3⟩ := jfl_ok h hz
      obtain ⟨c', c3, c4, -⟩ := h.2.2.2.2 _ _ hg
      rw [c1] at c3
      cases c3
      have ht2 : Nat.beq c.1 ci = true := by rw [show c.1 = t from c4]; exact ht
      obtain ⟨ct, cv⟩ := c
      exact ⟨fun _ _ _ => rfl, fun _ => rfl, v :: vs1, p, w', fun _ => by simp only [xho, hf, c1, ht2, cond_true, c2, Option.map_some], l1, l2, ⟨l3, g2.mono l1⟩, fun _ z => z⟩
    next => cases e
  next idx a r st0 =>
    obtain ⟨w1, vs1, rfl, g1, g2⟩ := hs.cons
    obtain ⟨w2, vs2, rfl, g3, g4⟩ := g2.cons
    cases g3
    split at e
    next ci k pl t fs hf hg =>
      obtain ⟨ht, e⟩ := xbif e
      split at e
      next cs hcs =>
        split at e
        next c0 hc0 =>
          obtain ⟨hfit, e⟩ := xbif e
          obtain ⟨g9, hz, e⟩ := xmap e
          cases e
          simp only [Bool.and_eq_true, Bool.or_eq_true] at hfit
          obtain ⟨c, b, c1, c2, c3, l2, l4⟩ := jpt_ok h hz g1
          obtain ⟨c', c5, c6, -⟩ := h.2.2.2.2 _ _ hg
          rw [c1] at c5
          cases c5
          have ht2 : Nat.beq c.1 ci = true := by rw [show c.1 = t from c6]; exact ht
          obtain ⟨x, rfl, -⟩ := c2.int
          have hc0lt := Nat.blt_eq.mp hfit.1
          have hx : xfit c0 (.int x) = true := by
            rcases hfit.2 with q | q
            · rw [Nat.eq_of_beq_eq_true q]; rfl
            · obtain ⟨x', e1, e2⟩ := j01 (jin_ok h.2.1 q g1)
              cases e1
              match c0, hc0lt with
              | 0, _ => rfl
              | 1, _ => exact e2
              | n + 2, z => exact absurd z (by omega)
          have hcond : ∀ kind, (xfit c0 (.int x) && (Nat.blt c0 10 || (Nat.beq kind 2 && Nat.beq ci own))) = true := fun kind => by rw [hx, Nat.blt_eq.mpr (show c0 < 10 by omega)]; rfl
          obtain ⟨ct, cv⟩ := c
          refine ⟨fun _ _ _ => rfl, fun _ => rfl, vs2, p.set r (ct, cv.set k (.int x)), w, fun kind => ?_, jLe.refl w, l2, g4, l4⟩
          have c3 : Nat.blt k cv.length = true := Nat.blt_eq.mpr c3
          have ht2 : Nat.beq ct ci = true := ht2
          simp only [xho, hf, c1, ht2, c3, Bool.and_true, cond_true, hcs, hc0]
          rw [hcond kind]
          rfl
        next => cases e
      next => cases e
    next => cases e
  next j r st0 =>
    obtain ⟨w1, vs1, rfl, g1, g2⟩ := hs.cons
    obtain ⟨w2, vs2, rfl, g3, g4⟩ := g2.cons
    cases g3
    obtain ⟨z, hz, e⟩ := xmap e
    cases e
    obtain ⟨x, c, v, w', lo, hi, rfl, y0, c1, c2, c3, c4, l1, l2, l3⟩ := jal_ok h hz g1
    obtain ⟨y, rfl, -⟩ := c4.int
    obtain ⟨ct, cv⟩ := c
    have c2 : ct = 100 := c2
    subst c2
    exact ⟨fun _ _ _ => rfl, fun _ => rfl, .int y :: vs2, p, w', fun _ => by simp only [xho, c1, c3]; rw [if_neg y0]; rfl, l1, l2, ⟨l3, g4.mono l1⟩, fun _ z => z⟩
  next j r st0 =>
    obtain ⟨w1, vs1, rfl, g1, g2⟩ := hs.cons
    obtain ⟨w2, vs2, rfl, g3, g4⟩ := g2.cons
    cases g3
    obtain ⟨z, hz, e⟩ := xmap e
    cases e
    obtain ⟨x, c, v, w', lo, hi, rfl, y0, c1, c2, c3, c4, l1, l2, l3⟩ := jal_ok h hz g1
    obtain ⟨y, rfl, -⟩ := c4.int
    obtain ⟨ct, cv⟩ := c
    have c2 : ct = 101 := c2
    subst c2
    exact ⟨fun _ _ _ => rfl, fun _ => rfl, .int y :: vs2, p, w', fun _ => by simp only [xho, c1, c3]; rw [if_neg y0]; rfl, l1, l2, ⟨l3, g4.mono l1⟩, fun _ z => z⟩
  next j r st0 =>
    obtain ⟨w1, vs1, rfl, g1, g2⟩ := hs.cons
    obtain ⟨w2, vs2, rfl, g3, g4⟩ := g2.cons
    cases g3
    obtain ⟨z, hz, e⟩ := xmap e
    cases e
    obtain ⟨x, c, v, w', lo, hi, rfl, y0, c1, c2, c3, c4, l1, l2, l3⟩ := jal_ok h hz g1
    obtain ⟨y, rfl, -⟩ := c4.long
    obtain ⟨ct, cv⟩ := c
    have c2 : ct = 102 := c2
    subst c2
    exact ⟨fun _ _ _ => rfl, fun _ => rfl, .long y :: vs2, p, w', fun _ => by simp only [xho, c1, c3]; rw [if_neg y0]; rfl, l1, l2, ⟨l3, g4.mono l1⟩, fun _ z => z⟩
  next j q st0 =>
    obtain ⟨w1, vs1, rfl, g1, g2⟩ := hs.cons
    obtain ⟨w2, vs2, rfl, g3, g4⟩ := g2.cons
    cases g3
    obtain ⟨z, hz, e⟩ := xmap e
    cases e
    obtain ⟨x, xs, v, w', rfl, y0, c1, c2, l1, l2, l3⟩ := jst_ok hro h hz g1
    exact ⟨fun _ _ _ => rfl, fun _ => rfl, .int v :: vs2, p, w', fun _ => by simp only [xho, c1, c2, Option.map_some]; rw [if_neg y0], l1, l2, ⟨l3, g4.mono l1⟩, fun _ z => z⟩
  next a j r st0 =>
    obtain ⟨w0, vs0, rfl, g0, g9⟩ := hs.cons
    obtain ⟨w1, vs1, rfl, g1, g2⟩ := g9.cons
    obtain ⟨w2, vs2, rfl, g3, g4⟩ := g2.cons
    cases g3
    obtain ⟨z, hz, e⟩ := xmap e
    cases e
    obtain ⟨x, c, lo, hi, rfl, y0, c1, c2, c3, c4, l2, l4⟩ := jas_ok h hz g1 g0
    obtain ⟨y, rfl, -⟩ := c4.int
    obtain ⟨ct, cv⟩ := c
    have c2 : ct = 100 := c2
    subst c2
    have c3 : Nat.blt x.toNatClampNeg cv.length = true := Nat.blt_eq.mpr c3
    exact ⟨fun _ _ _ => rfl, fun _ => rfl, vs2, _, w, fun _ => by simp only [xho, c1, c3]; rw [if_neg y0]; rfl, jLe.refl w, l2, g4, l4⟩
  next a j r st0 =>
    obtain ⟨hb, e⟩ := xbif e
    obtain ⟨w0, vs0, rfl, g0, g9⟩ := hs.cons
    obtain ⟨w1, vs1, rfl, g1, g2⟩ := g9.cons
    obtain ⟨w2, vs2, rfl, g3, g4⟩ := g2.cons
    cases g3
    obtain ⟨z, hz, e⟩ := xmap e
    cases e
    obtain ⟨y, rfl, hy⟩ := j01 (jin_ok h.2.1 hb g0)
    obtain ⟨x, c, lo, hi, rfl, y0, c1, c2, c3, c4, l2, l4⟩ := jas_ok h hz g1 g0
    obtain ⟨ct, cv⟩ := c
    have c2 : ct = 101 := c2
    subst c2
    have c3 : Nat.blt x.toNatClampNeg cv.length = true := Nat.blt_eq.mpr c3
    exact ⟨fun _ _ _ => rfl, fun _ => rfl, vs2, _, w, fun _ => by simp only [xho, c1, c3, hy]; rw [if_neg y0]; rfl, jLe.refl w, l2, g4, l4⟩
  next a j r st0 =>
    obtain ⟨w0, vs0, rfl, g0, g9⟩ := hs.cons
    obtain ⟨w1, vs1, rfl, g1, g2⟩ := g9.cons
    obtain ⟨w2, vs2, rfl, g3, g4⟩ := g2.cons
    cases g3
    obtain ⟨z, hz, e⟩ := xmap e
    cases e
    obtain ⟨x, c, lo, hi, rfl, y0, c1, c2, c3, c4, l2, l4⟩ := jas_ok h hz g1 g0
    obtain ⟨y, rfl, -⟩ := c4.long
    obtain ⟨ct, cv⟩ := c
    have c2 : ct = 102 := c2
    subst c2
    have c3 : Nat.blt x.toNatClampNeg cv.length = true := Nat.blt_eq.mpr c3
    exact ⟨fun _ _ _ => rfl, fun _ => rfl, vs2, _, w, fun _ => by simp only [xho, c1, c3]; rw [if_neg y0]; rfl, jLe.refl w, l2, g4, l4⟩
  next r st0 =>
    obtain ⟨w1, vs1, rfl, g1, g2⟩ := hs.cons
    cases g1
    split at e
    next b hg =>
      cases e
      obtain ⟨c, c1, c2, c3⟩ := h.2.2.2.2 _ _ hg
      obtain ⟨ct, cv⟩ := c
      have c2 : ct = 100 := c2
      subst c2
      have c3 : cv.length = b.1 := c3.1
      exact ⟨fun _ _ _ => rfl, fun _ => rfl, .int (Int32.ofNat cv.length) :: vs1, p, w, fun _ => by simp only [xho, c1]; rfl, jLe.refl w, h, ⟨by rw [c3]; rfl, g2⟩, fun _ z => z⟩
    next => cases e
  next idx st0 =>
    obtain ⟨kp, hkp, e⟩ := xmap e
    cases e
    exact ⟨fun _ _ _ => rfl, fun _ => rfl, .retAddr kp.1 :: st, p, w, fun _ => by simp only [xho, hkp, Option.map_some], jLe.refl w, h, ⟨rfl, hs⟩, fun _ z => z⟩
  next => cases e
end
section
/-! the bounded machine is sound: locals, ends, calls -/
def jLs (w : jP) (als : jL) (ls : xL) : Prop := ∀ q ∈ als, ∃ v, xfd ls q.1 = some v ∧ jR w q.2 v
theorem jLs.mono {w w' : jP} (h : jLe w w') {als : jL} {ls : xL} (k : jLs w als ls) : jLs w' als ls := fun q hq => by
  obtain ⟨v, h1, h2⟩ := k q hq
  exact ⟨v, h1, h2.mono h⟩
theorem xfd_keep {f : Nat × Value → Bool} : ∀ {ls : xL} {j : Nat} {v : Value}, xfd ls j = some v → f (j, v) = true → xfd (ls.filter f) j = some v
  | [], _, _, h, _ => by cases h
  | q :: l, j, v, h, hf => by
    unfold xfd at h
    cases hb : Nat.beq q.1 j with
    | true =>
      rw [hb] at h
      cases h
      have hj := Nat.eq_of_beq_eq_true hb
      subst hj
      rw [List.filter_cons, show f q = true from hf]
      show xfd (q :: _) q.1 = _
      unfold xfd
      rw [Nat.beq_refl]
      rfl
    | false =>
      rw [hb] at h
      have ih := xfd_keep (f := f) h hf
      rw [List.filter_cons]
      split
      · unfold xfd
        rw [hb]
        exact ih
      · exact ih
theorem jcat_top (g : jS) (a : jV) : jcat g a ≤ 2 := by
  have h2 : ∀ v : Value, v.category ≤ 2 := fun v => by cases v <;> exact Nat.le_of_ble_eq_true rfl
  cases a with
  | inl v => exact h2 v
  | inr s =>
    unfold jcat
    dsimp only
    split
    next q _ => cases Nat.beq q.1 0 <;> decide
    next => decide
theorem jcat_no2 {w : jP} {g : jS} (h : jT w g.2.1) {a : jV} {v : Value} (k : jR w a v) (e : Nat.beq (jcat g a) 2 = false) : (v.category == 2) = false := by
  have h1 := jcat_le h k
  have h2 := jcat_top g a
  cases hq : v.category == 2 with
  | false => rfl
  | true =>
    have h3 : v.category = 2 := eq_of_beq hq
    have h4 : jcat g a = 2 := by omega
    rw [h4] at e
    cases e
theorem beqF {a b : Nat} (h : Nat.beq a b = false) : (a == b) = false := beq_eq_false_iff_ne.mpr (fun e => by subst e; rw [Nat.beq_refl] at h; cases h)
theorem js1_ok {w : jP} {g : jS} {als : jL} {ls : xL} {i : Nat} {a : jV} {v : Value} (h : jT w g.2.1) (hl : jLs w als ls) (hv : jR w a v) : jLs w (js1 g als i a) (xs_1 ls i v) := by
  intro q hq
  rcases List.mem_cons.mp hq with rfl | hq
  · exact ⟨v, by unfold xs_1 xfd; rw [Nat.beq_refl]; rfl, hv⟩
  · obtain ⟨m1, m2⟩ := List.mem_filter.mp hq
    obtain ⟨u, u1, u2⟩ := hl q m1
    rw [Bool.and_eq_true] at m2
    have hne := jnb1 m2.1
    refine ⟨u, ?_, u2⟩
    unfold xs_1 xfd
    have hb : Nat.beq i q.1 = false := by
      cases hb : Nat.beq i q.1 with
      | false => rfl
      | true => exact absurd (Nat.eq_of_beq_eq_true hb).symm hne
    rw [hb, cond_false]
    refine xfd_keep u1 ?_
    show (!(q.1 == i) && !(q.1 + 1 == i && u.category == 2)) = true
    rw [show (q.1 == i) = false from beq_eq_false_iff_ne.mpr hne]
    cases hc : Nat.beq (q.1 + 1) i with
    | false => rw [beqF hc]; rfl
    | true =>
      have h4 := m2.2
      rw [hc] at h4
      have h5 : Nat.beq (jcat g q.2) 2 = false := by
        cases h6 : Nat.beq (jcat g q.2) 2 with
        | false => rfl
        | true => rw [h6] at h4; cases h4
      rw [jcat_no2 h u2 h5]
      simp
theorem js2_ok {w : jP} {g : jS} {als : jL} {ls : xL} {i : Nat} {a : jV} {v : Value} (h : jT w g.2.1) (hl : jLs w als ls) (hv : jR w a v) : jLs w (js2 g als i a) (xs_2 ls i v) := by
  intro q hq
  rcases List.mem_cons.mp hq with rfl | hq
  · exact ⟨v, by unfold xs_2 xfd; rw [Nat.beq_refl]; rfl, hv⟩
  · obtain ⟨m1, m2⟩ := List.mem_filter.mp hq
    obtain ⟨u, u1, u2⟩ := hl q m1
    rw [Bool.and_eq_true, Bool.and_eq_true] at m2
    have hne := jnb1 m2.1
    have hne2 := jnb1 m2.2.1
    refine ⟨u, ?_, u2⟩
    unfold xs_2 xfd
    have hb : Nat.beq i q.1 = false := by
      cases hb : Nat.beq i q.1 with
      | false => rfl
      | true => exact absurd (Nat.eq_of_beq_eq_true hb).symm hne
    rw [hb, cond_false]
    refine xfd_keep u1 ?_
    show (!(q.1 == i) && (!(q.1 == i + 1) && !(q.1 + 1 == i && u.category == 2))) = true
    rw [show (q.1 == i) = false from beq_eq_false_iff_ne.mpr hne, show (q.1 == i + 1) = false from beq_eq_false_iff_ne.mpr hne2]
    cases hc : Nat.beq (q.1 + 1) i with
    | false => rw [beqF hc]; rfl
    | true =>
      have h4 := m2.2.2
      rw [hc] at h4
      have h5 : Nat.beq (jcat g q.2) 2 = false := by
        cases h6 : Nat.beq (jcat g q.2) 2 with
        | false => rfl
        | true => rw [h6] at h4; cases h4
      rw [jcat_no2 h u2 h5]
      simp
theorem jld_ok {w : jP} {g : jS} {als : jL} {ls : xL} {k kd : Nat} {a : jV} (h : jT w g.2.1) (hl : jLs w als ls) (e : jld g als k kd = some a) : ∃ v lo hi, xfd ls k = some v ∧ jI kd lo hi v ∧ jR w a v := by
  unfold jld at e
  split at e
  next b hb =>
    obtain ⟨hz, e⟩ := xbif e
    cases e
    obtain ⟨v, h1, h2⟩ := hl _ (xfd_in hb)
    exact ⟨v, _, _, h1, jin_ok h hz h2, jnm_ok h h2⟩
  next => cases e
theorem jlr_ok {w : jP} {als : jL} {ls : xL} {k : Nat} {a : jV} (hl : jLs w als ls) (e : jlr als k = some a) : ∃ v, xlda ls k = some v ∧ jR w a v := by
  unfold jlr at e
  split at e
  next r hb =>
    cases e
    obtain ⟨v, h1, h2⟩ := hl _ (xfd_in hb)
    cases h2
    exact ⟨.ref r, by unfold xlda; rw [show xfd ls k = _ from h1], rfl⟩
  next => cases e
theorem jbo_ok {i : Instr} {o : Nat} {x y v : Value} (h : jbo i = some o) (e : jop o x y = some v) (own nL : Nat) (ls : xL) (st : List Value) : xs1 own nL i ls (y :: x :: st) = some (ls, v :: st) := by
  unfold jbo at h
  split at h <;> first | (cases h; done) | skip
  next => cases h; cases x <;> cases y <;> first | (cases e; rfl) | (cases e; done)
  next => cases h; cases x <;> cases y <;> first | (cases e; rfl) | (cases e; done)
  next => cases h; cases x <;> cases y <;> first | (cases e; rfl) | (cases e; done)
  next =>
    cases h
    cases x <;> cases y <;> first | (cases e; done) | skip
    next x y =>
      obtain ⟨h1, h2⟩ := jbif2 (show (bif decide (y = 0) then none else some (Value.int (x / y))) = some v from e)
      subst h2
      show (if y = 0 then none else some (ls, Value.int (x / y) :: st)) = _
      rw [if_neg (of_decide_eq_false h1)]
  next =>
    cases h
    cases x <;> cases y <;> first | (cases e; done) | skip
    next x y =>
      obtain ⟨h1, h2⟩ := jbif2 (show (bif decide (y = 0) then none else some (Value.int (x - x / y * y))) = some v from e)
      subst h2
      show (if y = 0 then none else some (ls, Value.int (x - x / y * y) :: st)) = _
      rw [if_neg (of_decide_eq_false h1)]
  next => cases h; cases x <;> cases y <;> first | (cases e; rfl) | (cases e; done)
  next => cases h; cases x <;> cases y <;> first | (cases e; rfl) | (cases e; done)
  next => cases h; cases x <;> cases y <;> first | (cases e; rfl) | (cases e; done)
  next => cases h; cases x <;> cases y <;> first | (cases e; rfl) | (cases e; done)
  next => cases h; cases x <;> cases y <;> first | (cases e; rfl) | (cases e; done)
  next => cases h; cases x <;> cases y <;> first | (cases e; rfl) | (cases e; done)
  next => cases h; cases x <;> cases y <;> first | (cases e; rfl) | (cases e; done)
theorem juo_ok {i : Instr} {o : Nat} {x v : Value} (h : juo i = some o) (e : jop o x (.int 0) = some v) (own nL : Nat) (ls : xL) (st : List Value) : xs1 own nL i ls (x :: st) = some (ls, v :: st) := by
  unfold juo at h
  split at h <;> first | (cases h; done) | (cases h; cases x <;> first | (cases e; rfl) | (cases e; done))
set_option maxHeartbeats 4000000 in
theorem jx1_ok {G : jGt} {own nL : Nat} {i : Instr} {als als' : jL} {ast ast' : List jV} {w : jP} {g g' : jS} {ls : xL} {st : List Value} {p : xH} (h : jSt G w g p) (e : jx1 own nL i als ast g = some (als', ast', g')) (hl : jLs w als ls) (hs : jSl w ast st) :
    ∃ ls' st' w', xs1 own nL i ls st = some (ls', st') ∧ jLe w w' ∧ jSt G w' g' p ∧ jLs w' als' ls' ∧ jSl w' ast' st' := by
  unfold jx1 at e
  split at e
  next => cases e; exact ⟨_, _, w, rfl, jLe.refl w, h, hl, rfl, hs⟩
  next => cases e; exact ⟨_, _, w, rfl, jLe.refl w, h, hl, rfl, hs⟩
  next => cases e; exact ⟨_, _, w, rfl, jLe.refl w, h, hl, rfl, hs⟩
  next => cases e; exact ⟨_, _, w, rfl, jLe.refl w, h, hl, rfl, hs⟩
  next => obtain ⟨v, hv, hh⟩ := xmap e; cases hh; exact ⟨ls, .int v.1 :: st, w, by simp [xs1, hv], jLe.refl w, h, hl, rfl, hs⟩
  next => obtain ⟨v, hv, hh⟩ := xmap e; cases hh; exact ⟨ls, .int v.1 :: st, w, by simp [xs1, hv], jLe.refl w, h, hl, rfl, hs⟩
  next => obtain ⟨v, hv, hh⟩ := xmap e; cases hh; exact ⟨ls, .long v.1 :: st, w, by simp [xs1, hv], jLe.refl w, h, hl, rfl, hs⟩
  next => obtain ⟨v, hv, hh⟩ := xmap e; cases hh; obtain ⟨u, lo, hi, h1, h2, h3⟩ := jld_ok h.2.1 hl hv; obtain ⟨x, rfl, -⟩ := h2.int; exact ⟨ls, .int x :: st, w, by simp [xs1, xldi, h1], jLe.refl w, h, hl, h3, hs⟩
  next => obtain ⟨v, hv, hh⟩ := xmap e; cases hh; obtain ⟨u, lo, hi, h1, h2, h3⟩ := jld_ok h.2.1 hl hv; obtain ⟨x, rfl, -⟩ := h2.int; exact ⟨ls, .int x :: st, w, by simp [xs1, xldi, h1], jLe.refl w, h, hl, h3, hs⟩
  next => obtain ⟨v, hv, hh⟩ := xmap e; cases hh; obtain ⟨u, lo, hi, h1, h2, h3⟩ := jld_ok h.2.1 hl hv; obtain ⟨x, rfl, -⟩ := h2.long; exact ⟨ls, .long x :: st, w, by simp [xs1, xldl, h1], jLe.refl w, h, hl, h3, hs⟩
  next => obtain ⟨v, hv, hh⟩ := xmap e; cases hh; obtain ⟨u, lo, hi, h1, h2, h3⟩ := jld_ok h.2.1 hl hv; obtain ⟨x, rfl, -⟩ := h2.long; exact ⟨ls, .long x :: st, w, by simp [xs1, xldl, h1], jLe.refl w, h, hl, h3, hs⟩
  next => obtain ⟨v, hv, hh⟩ := xmap e; cases hh; obtain ⟨u, h1, h3⟩ := jlr_ok hl hv; exact ⟨ls, u :: st, w, by simp [xs1, h1], jLe.refl w, h, hl, h3, hs⟩
  next => obtain ⟨v, hv, hh⟩ := xmap e; cases hh; obtain ⟨u, h1, h3⟩ := jlr_ok hl hv; exact ⟨ls, u :: st, w, by simp [xs1, h1], jLe.refl w, h, hl, h3, hs⟩
  next =>
    obtain ⟨hz, e⟩ := xbif e; cases e
    rw [Bool.and_eq_true] at hz
    obtain ⟨v, vs, rfl, g1, g2⟩ := hs.cons
    obtain ⟨x, rfl, -⟩ := (jin_ok h.2.1 hz.1 g1).int
    exact ⟨_, _, w, by simp only [xs1, hz.2, cond_true], jLe.refl w, h, js1_ok h.2.1 hl g1, g2⟩
  next =>
    obtain ⟨hz, e⟩ := xbif e; cases e
    rw [Bool.and_eq_true] at hz
    obtain ⟨v, vs, rfl, g1, g2⟩ := hs.cons
    obtain ⟨x, rfl, -⟩ := (jin_ok h.2.1 hz.1 g1).int
    exact ⟨_, _, w, by simp only [xs1, hz.2, cond_true], jLe.refl w, h, js1_ok h.2.1 hl g1, g2⟩
  next =>
    obtain ⟨hz, e⟩ := xbif e; cases e
    rw [Bool.and_eq_true] at hz
    obtain ⟨v, vs, rfl, g1, g2⟩ := hs.cons
    obtain ⟨x, rfl, -⟩ := (jin_ok h.2.1 hz.1 g1).long
    exact ⟨_, _, w, by simp only [xs1, hz.2, cond_true], jLe.refl w, h, js2_ok h.2.1 hl g1, g2⟩
  next =>
    obtain ⟨hz, e⟩ := xbif e; cases e
    rw [Bool.and_eq_true] at hz
    obtain ⟨v, vs, rfl, g1, g2⟩ := hs.cons
    obtain ⟨x, rfl, -⟩ := (jin_ok h.2.1 hz.1 g1).long
    exact ⟨_, _, w, by simp only [xs1, hz.2, cond_true], jLe.refl w, h, js2_ok h.2.1 hl g1, g2⟩
  next =>
    split at e
    next a ha =>
      obtain ⟨hk, e⟩ := xbif e
      obtain ⟨z, hz, e⟩ := xmap e
      cases e
      obtain ⟨u, lo, hi, h1, h2, h3⟩ := jld_ok h.2.1 hl ha
      obtain ⟨x, rfl, -⟩ := h2.int
      obtain ⟨v, w', k1, k2, k3, k4⟩ := jar_ok h hz h3 (show jR w (.inl (.int (Int32.ofInt _))) _ from rfl)
      cases k1
      exact ⟨_, _, w', by simp only [xs1, xldi, h1, hk, cond_true], k2, k3, js1_ok k3.2.1 (hl.mono k2) k4, hs.mono k2⟩
    next => cases e
  next =>
    obtain ⟨hk, e⟩ := xbif e; cases e
    obtain ⟨v, vs, rfl, g1, g2⟩ := hs.cons
    exact ⟨ls, v :: v :: vs, w, by simp only [xs1]; rw [if_pos (jcat_1 h.2.1 g1 hk)], jLe.refl w, h, hl, g1, g1, g2⟩
  next =>
    obtain ⟨hk, e⟩ := xbif e; cases e
    obtain ⟨v, vs, rfl, g1, g2⟩ := hs.cons
    exact ⟨ls, vs, w, by simp only [xs1]; rw [if_pos (jcat_1 h.2.1 g1 hk)], jLe.refl w, h, hl, g2⟩
  next =>
    obtain ⟨hk, e⟩ := xbif e; cases e
    rw [Bool.and_eq_true] at hk
    obtain ⟨v, vs, rfl, g1, g2⟩ := hs.cons
    obtain ⟨v2, vs2, rfl, g3, g4⟩ := g2.cons
    exact ⟨ls, v :: v2 :: v :: v2 :: vs2, w, by simp only [xs1]; rw [if_pos ⟨jcat_1 h.2.1 g1 hk.1, jcat_1 h.2.1 g3 hk.2⟩], jLe.refl w, h, hl, g1, g3, g1, g3, g4⟩
  next =>
    obtain ⟨v, vs, rfl, g1, g2⟩ := hs.cons
    split at e
    next o ho =>
      obtain ⟨z, hz, e⟩ := xmap e
      cases e
      obtain ⟨u, w', k1, k2, k3, k4⟩ := jar_ok h hz g1 (show jR w (.inl (.int 0)) (.int 0) from rfl)
      exact ⟨ls, u :: vs, w', juo_ok ho k1 own nL ls vs, k2, k3, hl.mono k2, k4, g2.mono k2⟩
    next =>
      split at e
      next o b st1 ho hx =>
        obtain ⟨v2, vs2, rfl, g3, g4⟩ := g2.cons
        obtain ⟨z, hz, e⟩ := xmap e
        cases e
        obtain ⟨u, w', k1, k2, k3, k4⟩ := jar_ok h hz g3 g1
        exact ⟨ls, u :: vs2, w', jbo_ok ho k1 own nL ls vs2, k2, k3, hl.mono k2, k4, g4.mono k2⟩
      next => cases e
  next => cases e
def jRo (w : jP) : Option jV → Option Value → Prop
  | none, none => True
  | some a, some v => jR w a v
  | _, _ => False
theorem jrt_ok {G : jGt} {ret : Nat} {i : Instr} {ast : List jV} {w : jP} {g : jS} {st : List Value} {p : xH} {ra : Option jV} (h : jSt G w g p) (e : jrt ret i ast g = some ra) (hs : jSl w ast st) :
    (∀ own nL ls, xs1 own nL i ls st = none) ∧ (∀ pc, xbr i pc st = none) ∧ (∀ ro own kind h, xho ro own kind i st h = none) ∧ ∃ r, xrt ret i st = some r ∧ jRo w ra r := by
  unfold jrt at e
  split at e
  next =>
    obtain ⟨h0, e⟩ := xbif e
    cases e
    cases hs.nil
    exact ⟨fun _ _ _ => rfl, fun _ => rfl, fun _ _ _ _ => rfl, none, by simp only [xrt, h0, cond_true], trivial⟩
  next a =>
    obtain ⟨v, vs, rfl, g1, g2⟩ := hs.cons
    cases g2.nil
    cases h1 : (Nat.beq ret 1 && jin g a 0 (-2147483648) 2147483647) with
    | true =>
      rw [h1] at e
      cases e
      rw [Bool.and_eq_true] at h1
      obtain ⟨x, rfl, -⟩ := (jin_ok h.2.1 h1.2 g1).int
      exact ⟨fun _ _ _ => rfl, fun _ => rfl, fun _ _ _ _ => rfl, some (.int x), by simp only [xrt, h1.1, cond_true], jnm_ok h.2.1 g1⟩
    | false =>
      rw [h1, cond_false] at e
      obtain ⟨h2, e⟩ := xbif e
      cases e
      rw [Bool.and_eq_true] at h2
      obtain ⟨x, rfl, h01⟩ := j01 (jin_ok h.2.1 h2.2 g1)
      have hr : ret = 2 := Nat.eq_of_beq_eq_true h2.1
      subst hr
      refine ⟨fun _ _ _ => rfl, fun _ => rfl, fun _ _ _ _ => rfl, some (.int x), ?_, jnm_ok h.2.1 g1⟩
      show (bif Nat.beq 2 1 then some (some (Value.int x)) else bif Nat.beq 2 2 && (x == 0 || x == 1) then some (some (.int x)) else none) = _
      rw [h01]
      rfl
  next a =>
    obtain ⟨v, vs, rfl, g1, g2⟩ := hs.cons
    cases g2.nil
    obtain ⟨h0, e⟩ := xbif e
    cases e
    rw [Bool.and_eq_true] at h0
    obtain ⟨x, rfl, -⟩ := (jin_ok h.2.1 h0.2 g1).long
    exact ⟨fun _ _ _ => rfl, fun _ => rfl, fun _ _ _ _ => rfl, some (.long x), by simp only [xrt, h0.1, cond_true], jnm_ok h.2.1 g1⟩
  next => cases e
theorem jtk_ok {w : jP} : ∀ (n : Nat) {acc as rest ast : List jV} {cacc st : List Value}, jtk n acc ast = some (as, rest) → jSl w acc cacc → jSl w ast st → ∃ cas crest, xtk n cacc st = some (cas, crest) ∧ jSl w as cas ∧ jSl w rest crest
  | 0, acc, as, rest, ast, cacc, st, h, h1, h2 => by
    simp only [jtk, Option.some.injEq, Prod.mk.injEq] at h
    obtain ⟨rfl, rfl⟩ := h
    exact ⟨cacc, st, rfl, h1, h2⟩
  | n + 1, acc, as, rest, [], cacc, st, h, h1, h2 => by simp [jtk] at h
  | n + 1, acc, as, rest, a :: ast, cacc, st, h, h1, h2 => by
    obtain ⟨v, vs, rfl, g1, g2⟩ := h2.cons
    rw [jtk] at h
    exact jtk_ok n h (cacc := v :: cacc) ⟨g1, h1⟩ g2
theorem jcs_ok {w : jP} {g : jS} (h : jT w g.2.1) : ∀ {as : List jV} {vs : List Value}, jSl w as vs → xcs vs ≤ jcs g as
  | [], [], _ => Nat.le_refl _
  | [], _ :: _, e => absurd e (by simp [jSl])
  | _ :: _, [], e => absurd e (by simp [jSl])
  | a :: as, v :: vs, e => by
    have h1 := jcat_le h e.1
    have h2 := jcs_ok h e.2
    simp only [xcs, List.map_cons, List.sum_cons, jcs] at h2 ⊢
    omega
theorem jkw_cat {w : jP} {g : jS} (h : jT w g.2.1) {a : jV} {v : Value} (k : jR w a v) (e : jkw1 g a = true) : v.category = jcat g a := by
  cases a with
  | inl u => cases k; rfl
  | inr s =>
    unfold jkw1 at e
    dsimp only at e
    split at e
    next q hq =>
      obtain ⟨u, u1, u2, -⟩ := jrow_of h hq
      cases jR.one k (show jR w (.inr s) u from u1)
      unfold jcat
      dsimp only
      rw [hq]
      have e := Nat.le_of_ble_eq_true e
      rcases (show q.1 = 0 ∨ q.1 = 1 by omega) with z | z
      · rw [z] at u2
        obtain ⟨x, rfl, -⟩ := u2.int
        dsimp only
        rw [z]; rfl
      · rw [z] at u2
        obtain ⟨x, rfl, -⟩ := u2.long
        dsimp only
        rw [z]; rfl
    next => cases e
theorem jlv_ok {w : jP} {g : jS} (h : jT w g.2.1) : ∀ {as : List jV} {vs : List Value} (i : Nat), jSl w as vs → jkw g as = true → ∀ q ∈ jlv g i as, i ≤ q.1 ∧ ∃ v, xfd (lv_args i vs) q.1 = some v ∧ jR w q.2 v
  | [], _, i, _, _, q, hq => absurd hq List.not_mem_nil
  | _ :: _, [], _, e, _, _, _ => absurd e (by simp [jSl])
  | a :: as, v :: vs, i, e, hk, q, hq => by
    unfold jkw at hk
    rw [List.all_cons, Bool.and_eq_true] at hk
    unfold lv_args
    rcases List.mem_cons.mp hq with rfl | hq
    · exact ⟨Nat.le_refl _, v, by unfold xfd; rw [Nat.beq_refl]; rfl, e.1⟩
    · have hc := jkw_cat h e.1 hk.1
      have step : ∀ j : Nat, i < j → q ∈ jlv g j as → i ≤ q.1 ∧ ∃ u, xfd ((i, v) :: lv_args j vs) q.1 = some u ∧ jR w q.2 u := fun j hj hm => by
        obtain ⟨h1, u, h2, h3⟩ := jlv_ok h j e.2 hk.2 q hm
        refine ⟨by omega, u, ?_, h3⟩
        unfold xfd
        have hb : Nat.beq i q.1 = false := by
          cases hb : Nat.beq i q.1 with
          | false => rfl
          | true => have := Nat.eq_of_beq_eq_true hb; omega
        rw [hb]
        exact h2
      cases h2 : Nat.beq (jcat g a) 2 with
      | true =>
        rw [h2] at hq
        have : v.category = 2 := hc.trans (Nat.eq_of_beq_eq_true h2)
        rw [if_pos this]
        exact step (i + 2) (by omega) hq
      | false =>
        rw [h2] at hq
        have : ¬ v.category = 2 := fun z => by rw [hc] at z; rw [z] at h2; cases h2
        rw [if_neg this]
        exact step (i + 1) (by omega) hq
theorem jLs_args {w : jP} {g : jS} (h : jT w g.2.1) {as : List jV} {vs : List Value} (e : jSl w as vs) (hk : jkw g as = true) : jLs w (jlv g 0 as) (lv_args 0 vs) := fun q hq => (jlv_ok h 0 e hk q hq).2
theorem jgc_tag {G : jGt} {w : jP} {g : jS} {p : xH} (h : jSt G w g p) {r : Nat} {b : jG1} (e : jgc G r = some b) : ∃ cv, p[r]? = some (b.1, cv) := by
  obtain ⟨⟨c1, c2⟩, h1, h2, -⟩ := h.2.2.2.2 _ _ e
  have h2 : c1 = b.1 := h2
  subst h2
  exact ⟨c2, h1⟩
set_option maxHeartbeats 2000000 in
theorem jca_ok {G : jGt} {own : Nat} {i : Instr} {ast : List jV} {w : jP} {g : jS} {st : List Value} {p : xH} {y : Nat} {as rest : List jV} (h : jSt G w g p) (e : jca G own i ast = some (y, as, rest)) (hs : jSl w ast st) :
    (∀ own nL ls, xs1 own nL i ls st = none) ∧ (∀ pc, xbr i pc st = none) ∧ (∀ ro kind h, xho ro own kind i st h = none) ∧ (∀ ret, xrt ret i st = none) ∧ xob own i st = none ∧ xmm own i st = none ∧ xay own i st p = none ∧ ∃ cas crest, xca own i st p = some (y, cas, crest) ∧ jSl w as cas ∧ jSl w rest crest := by
  unfold jca at e
  split at e
  next idx =>
    split at e
    next y0 n pl nest hC =>
      split at e
      next o x1 kind x2 as0 r rest0 hM hT =>
        split at e
        next t fs hg =>
          obtain ⟨hz, e⟩ := xbif e
          cases e
          obtain ⟨cas, crest, k1, k2, k3⟩ := jtk_ok (w := w) n hT (cacc := []) trivial hs
          obtain ⟨v, vs, rfl, g1, g2⟩ := k3.cons
          cases g1
          obtain ⟨cv, hcv⟩ := jgc_tag h hg
          refine ⟨fun _ _ _ => rfl, fun _ => rfl, fun _ _ _ => rfl, fun _ => rfl, ?_, ?_, ?_, .ref r :: cas, vs, ?_, ⟨rfl, k2⟩, g2⟩
          · unfold xob; split <;> first | rfl | (cases ‹Instr.invokevirtual _ = _›)
          · unfold xmm; split <;> first | rfl | (cases ‹Instr.invokevirtual _ = _›)
          · unfold xay; split <;> first | rfl | (cases ‹Instr.invokevirtual _ = _›)
          · simp only [xca, hC, hM, k1, hcv]
            rw [hz]
            rfl
        next => cases e
      next => cases e
    next => cases e
  next idx =>
    split at e
    next y0 n pl nest hC =>
      split at e
      next o x1 kind x2 as0 rest0 hM hT =>
        obtain ⟨hz, e⟩ := xbif e
        cases e
        obtain ⟨cas, crest, k1, k2, k3⟩ := jtk_ok (w := w) n hT (cacc := []) trivial hs
        have hy : Nat.blt y xOw = true := by rw [Bool.and_eq_true, Bool.and_eq_true] at hz; exact hz.1.1
        refine ⟨fun _ _ _ => rfl, fun _ => rfl, fun _ _ _ => rfl, fun _ => rfl, ?_, ?_, xay_none hC st p, cas, crest, ?_, k2, k3⟩
        · unfold xob; split <;> first | rfl | (cases ‹Instr.invokestatic _ = _›)
        · unfold xmm
          split
          next idx' yy xx rest' heq =>
            cases heq
            rw [hC]
            have h1 : Nat.beq y xMx = false := by
              cases hb : Nat.beq y xMx with
              | false => rfl
              | true => rw [Nat.eq_of_beq_eq_true hb] at hy; revert hy; decide
            have h2 : Nat.beq y xMn = false := by
              cases hb : Nat.beq y xMn with
              | false => rfl
              | true => rw [Nat.eq_of_beq_eq_true hb] at hy; revert hy; decide
            dsimp only
            rw [h1, h2]
            cases Nat.beq nest 0 <;> rfl
          next => rfl
        · simp only [xca, hC, hM, k1]
          rw [hz]
          rfl
      next => cases e
    next => cases e
  next => cases e
theorem jmm_ok {G : jGt} {own : Nat} {i : Instr} {ast rest : List jV} {w : jP} {g g' : jS} {st : List Value} {p : xH} (h : jSt G w g p) (e : jmm own i ast g = some (rest, g')) (hs : jSl w ast st) :
    (∀ own nL ls, xs1 own nL i ls st = none) ∧ (∀ pc, xbr i pc st = none) ∧ (∀ ro own kind h, xho ro own kind i st h = none) ∧ (∀ ret, xrt ret i st = none) ∧ xob own i st = none ∧ ∃ crest w', xmm own i st = some crest ∧ jLe w w' ∧ jSt G w' g' p ∧ jSl w' rest crest ∧ ∃ v vs, crest = v :: vs ∧ v.category = 1 ∧ jSl w (rest.drop 1) vs := by
  unfold jmm at e
  split at e
  next idx b a rest0 =>
    obtain ⟨v1, vs1, rfl, g1, g2⟩ := hs.cons
    obtain ⟨v2, vs2, rfl, g3, g4⟩ := g2.cons
    split at e
    next m x1 x2 nest hC =>
      obtain ⟨hn, e⟩ := xbif e
      refine ⟨fun _ _ _ => rfl, fun _ => rfl, fun _ _ _ _ => rfl, fun _ => rfl, ?_, ?_⟩
      · unfold xob; split <;> first | rfl | (cases ‹Instr.invokestatic _ = _›)
      · cases h1 : Nat.beq m xMx with
        | true =>
          rw [h1] at e
          obtain ⟨z, hz, e⟩ := xmap e
          cases e
          obtain ⟨v, w', k1, k2, k3, k4⟩ := jar_ok h hz g3 g1
          cases v2 <;> first | (cases k1; done) | skip
          next x =>
          cases v1 <;> first | (cases k1; done) | skip
          next y =>
          cases k1
          exact ⟨.int (if x < y then y else x) :: vs2, w', by simp only [xmm, hC, hn, h1, cond_true], k2, k3, ⟨k4, g4.mono k2⟩, _, vs2, rfl, rfl, g4⟩
        | false =>
          rw [h1, cond_false] at e
          obtain ⟨h2, e⟩ := xbif e
          obtain ⟨z, hz, e⟩ := xmap e
          cases e
          obtain ⟨v, w', k1, k2, k3, k4⟩ := jar_ok h hz g3 g1
          cases v2 <;> first | (cases k1; done) | skip
          next x =>
          cases v1 <;> first | (cases k1; done) | skip
          next y =>
          cases k1
          exact ⟨.int (if y < x then y else x) :: vs2, w', by simp only [xmm, hC, hn, h1, h2, cond_true, cond_false], k2, k3, ⟨k4, g4.mono k2⟩, _, vs2, rfl, rfl, g4⟩
    next => cases e
  next => cases e
end
section
/-! the bounded machine is sound: copies, distances, fields, outcomes, open loops -/
theorem jcpy_len (vs ws : List Value) (a b n : Nat) : (xcpy vs ws a b n).length = ws.length := by simp [xcpy]
theorem xcpy_in {vs ws : List Value} {a b n : Nat} {P : Value → Prop} (h1 : ∀ v ∈ vs, P v) (h2 : ∀ v ∈ ws, P v) (h3 : a + n ≤ vs.length) : ∀ v ∈ xcpy vs ws a b n, P v := by
  intro v hv
  unfold xcpy at hv
  obtain ⟨k, hk, e⟩ := List.mem_map.mp hv
  have hk := List.mem_range.mp hk
  split at e
  next hc =>
    rw [List.getD_eq_getElem?_getD, List.getElem?_eq_getElem (by omega : a + (k - b) < vs.length)] at e
    exact e ▸ h1 _ (List.getElem_mem _)
  next hc =>
    rw [List.getD_eq_getElem?_getD, List.getElem?_eq_getElem hk] at e
    exact e ▸ h2 _ (List.getElem_mem _)
theorem jclamp {x : Int32} (h : 0 ≤ x.toInt) : (x.toNatClampNeg : Int) = x.toInt := by
  have h9 : (x.toNatClampNeg : Int) = ((x.toInt.toNat : Nat) : Int) := rfl
  omega
theorem jnneg {x : Int32} (h : 0 ≤ x.toInt) : ¬ x < 0 := fun z => by
  have := Int32.lt_iff_toInt_lt.mp z
  have h3 : (0 : Int32).toInt = 0 := by decide
  omega
theorem jay_ok {G : jGt} {W : List (Nat × Nat)} {own : Nat} {i : Instr} {ast rest : List jV} {w : jP} {g g' : jS} {st : List Value} {p : xH} (h : jSt G w g p) (e : jay G W own i ast g = some (rest, g')) (hs : jSl w ast st) :
    (∀ own nL ls, xs1 own nL i ls st = none) ∧ (∀ pc, xbr i pc st = none) ∧ (∀ ro own kind h, xho ro own kind i st h = none) ∧ (∀ ret, xrt ret i st = none) ∧ xob own i st = none ∧ xmm own i st = none ∧ ∃ crest p', xay own i st p = some (crest, p') ∧ jSt G w g' p' ∧ jSl w rest crest ∧ (∀ p0, jWf W p0 p → jWf W p0 p') := by
  unfold jay at e
  split at e
  next idx n dp rd sp rs rest0 =>
    obtain ⟨v1, vs1, rfl, g1, g2⟩ := hs.cons
    obtain ⟨v2, vs2, rfl, g3, g4⟩ := g2.cons
    obtain ⟨v3, vs3, rfl, g5, g6⟩ := g4.cons
    obtain ⟨v4, vs4, rfl, g7, g8⟩ := g6.cons
    obtain ⟨v5, vs5, rfl, g9, g10⟩ := g8.cons
    cases g5
    cases g9
    split at e
    next yp b0 b1 q hY h0 h1 hq =>
      obtain ⟨hz, e⟩ := xbif e
      cases e
      simp only [Bool.and_eq_true, decide_eq_true_eq] at hz
      obtain ⟨⟨⟨⟨⟨z1, z2⟩, z3⟩, z4⟩, z5⟩, z6⟩ := hz
      obtain ⟨n, rfl, n0, n1⟩ := (jin_ok h.2.1 z1 g1).int
      obtain ⟨sp, rfl, s0, s1⟩ := (jin_ok h.2.1 z2 g7).int
      obtain ⟨dp, rfl, d0, d1⟩ := (jin_ok h.2.1 z3 g3).int
      have hn := (jbd_ok h.2.1 hq g1).2.2
      have hn : n.toInt ≤ q.2.2 := hn
      obtain ⟨⟨c0, vs⟩, e0, k0, k1⟩ := h.2.2.2.2 _ _ h0
      obtain ⟨⟨c1, ws⟩, e1, l0, l1⟩ := h.2.2.2.2 _ _ h1
      have k0 : c0 = 102 := k0
      have l0 : c1 = 102 := l0
      subst k0 l0
      have k1 : vs.length = b0.1 ∧ ∀ v ∈ vs, jI 1 b0.2.1 b0.2.2 v := k1
      have l1 : ws.length = b1.1 ∧ ∀ v ∈ ws, jI 1 b1.2.1 b1.2.2 v := l1
      have cn := jclamp n0
      have cs := jclamp s0
      have cd := jclamp d0
      have t1 : sp.toNatClampNeg + n.toNatClampNeg ≤ vs.length := by rw [k1.1]; omega
      have t2 : dp.toNatClampNeg + n.toNatClampNeg ≤ ws.length := by rw [l1.1]; omega
      have hxa : xay own (.invokestatic idx) (.int n :: .int dp :: .ref rd :: .int sp :: .ref rs :: vs5) p = some (vs5, p.set rd (102, xcpy vs ws sp.toNatClampNeg dp.toNatClampNeg n.toNatClampNeg)) := by
        simp only [xay, hY, e0, e1]
        have hneg : ¬ (sp < 0 ∨ dp < 0 ∨ n < 0) := by
          rintro (z | z | z)
          · exact jnneg s0 z
          · exact jnneg d0 z
          · exact jnneg n0 z
        rw [show (Nat.beq 102 102 && Nat.beq 102 102 && Nat.ble (sp.toNatClampNeg + n.toNatClampNeg) vs.length && Nat.ble (dp.toNatClampNeg + n.toNatClampNeg) ws.length) = true from by rw [Nat.ble_eq.mpr t1, Nat.ble_eq.mpr t2]; rfl, cond_true, if_neg hneg]
      have hxc : xtb xC own idx = none := by
        cases hc : xtb xC own idx with
        | none => rfl
        | some a =>
          have := xay_none hc (.int n :: .int dp :: .ref rd :: .int sp :: .ref rs :: vs5) p
          rw [hxa] at this
          cases this
      have hok : gOk (102, .inr b1) (102, xcpy vs ws sp.toNatClampNeg dp.toNatClampNeg n.toNatClampNeg) := by
        refine ⟨rfl, ?_⟩
        show (xcpy vs ws _ _ _).length = b1.1 ∧ ∀ v ∈ xcpy vs ws _ _ _, jI 1 b1.2.1 b1.2.2 v
        refine ⟨by rw [jcpy_len]; exact l1.1, xcpy_in (fun v hv => ?_) l1.2 t1⟩
        obtain ⟨i1, i2, i3⟩ := k1.2 v hv
        exact ⟨i1, by omega, by omega⟩
      refine ⟨fun _ _ _ => rfl, fun _ => rfl, fun _ _ _ _ => rfl, fun _ => rfl, ?_, ?_, vs5, _, hxa, ⟨h.1, h.2.1, fun q hq => ?_, fun q hq => ?_, GH_set h.2.2.2.2 h1 hok⟩, g10, fun p0 hp => hp.set e1 rfl (jcpy_len _ _ _ _ _) (fun k hk => by rw [jwa_w z4 k] at hk; cases hk)⟩
      · unfold xob; split <;> first | rfl | (cases ‹Instr.invokestatic _ = _›)
      · simp only [xmm, hxc]
      · obtain ⟨m1, m2⟩ := List.mem_filter.mp hq
        exact (h.2.2.1 q m1).other (jnb1 m2)
      · obtain ⟨m1, m2⟩ := List.mem_filter.mp hq
        exact (h.2.2.2.1 q m1).other (jnb1 m2)
    next => cases e
  next => cases e
/-! distances -/
theorem jad_ok {w : jP} {g : jS} (h : jT w g.2.1) {a b : jV} {k : Int} {v : Value} (e : jad g a = some (b, k)) (hv : jR w a v) : ∃ u, jR w b u ∧ jz v = jz u + k := by
  unfold jad at e
  split at e
  next s =>
    split at e
    next q hq =>
      obtain ⟨u, u1, u2, u3⟩ := jrow_of h hq
      cases hv.one (show jR w (.inr s) u from u1)
      split at e
      next b1 c hd =>
        rw [hd] at u3
        obtain ⟨x, y, d1, d2, -, d4⟩ := u3
        obtain ⟨d5, d6, d7⟩ := d4 (fun z => by cases z)
        have d2 : y = .int c := d2
        subst d2
        split at e
        next p hp =>
          obtain ⟨hz, e⟩ := xbif e
          cases e
          simp only [Bool.and_eq_true, decide_eq_true_eq] at hz
          have i1 := jbd_ok h hp d1
          obtain ⟨x, rfl, -⟩ := (show jI 0 (jz x) (jz x) x from ⟨d6, Int.le_refl _, Int.le_refl _⟩).int
          have d5 : some (Value.int (x + c)) = some v := d5
          cases d5
          have x1 : p.2.1 ≤ x.toInt := i1.2.1
          have x2 : x.toInt ≤ p.2.2 := i1.2.2
          refine ⟨.int x, d1, ?_⟩
          show (x + c).toInt = x.toInt + c.toInt
          rw [Int32.toInt_add]
          exact Int.bmod_eq_of_le (by omega) (by omega)
        next => cases e
      next b1 c hd =>
        rw [hd] at u3
        obtain ⟨x, y, d1, d2, -, d4⟩ := u3
        obtain ⟨d5, d6, d7⟩ := d4 (fun z => by cases z)
        have d2 : y = .int c := d2
        subst d2
        split at e
        next p hp =>
          obtain ⟨hz, e⟩ := xbif e
          cases e
          simp only [Bool.and_eq_true, decide_eq_true_eq] at hz
          have i1 := jbd_ok h hp d1
          obtain ⟨x, rfl, -⟩ := (show jI 0 (jz x) (jz x) x from ⟨d6, Int.le_refl _, Int.le_refl _⟩).int
          have d5 : some (Value.int (x - c)) = some v := d5
          cases d5
          have x1 : p.2.1 ≤ x.toInt := i1.2.1
          have x2 : x.toInt ≤ p.2.2 := i1.2.2
          refine ⟨.int x, d1, ?_⟩
          show (x - c).toInt = x.toInt + -c.toInt
          rw [Int32.toInt_sub, ← Int.sub_eq_add_neg]
          exact Int.bmod_eq_of_le (by omega) (by omega)
        next => cases e
      next => cases e
    next => cases e
  next => cases e
theorem jof_ok {w : jP} {g : jS} (h : jT w g.2.1) {a : jV} {d : jD} {v : Value} (e : jof g a = some d) (hv : jR w a v) : jDf w (some d) v := by
  unfold jof at e
  split at e
  next s =>
    split at e
    next q hq =>
      obtain ⟨u, u1, u2, u3⟩ := jrow_of h hq
      cases hv.one (show jR w (.inr s) u from u1)
      rw [e] at u3
      exact u3
    next => cases e
  next => cases e
theorem jor2 {a b : Bool} (h : (a || b) = true) : a = true ∨ b = true := Bool.or_eq_true_iff.mp h
theorem jdl_b {w : jP} {g : jS} (h : jT w g.2.1) {v b : jV} {x y : Value} {t : Int} (hx : jR w v x) (hy : jR w b y) (e : (match jbd g v, jbd g b with | some p, some q => decide (t ≤ p.2.1 - q.2.2) | _, _ => false) = true) : t ≤ jz x - jz y := by
  split at e
  next p q h1 h2 =>
    have := (jbd_ok h h1 hx).2.1
    have := (jbd_ok h h2 hy).2.2
    have := of_decide_eq_true e
    omega
  next => cases e
theorem jdl_c {w : jP} {g : jS} (h : jT w g.2.1) {v b : jV} {x y : Value} {t : Int} (e : (match v, b with
      | .inr _, .inr _ => decide (t ≤ 1) && (match jvn g.2.1 (some (23, b, v)) with
        | some z => (match jbd g (.inr z) with
          | some p => decide (p.2.2 ≤ -1)
          | none => false)
        | none => false)
      | _, _ => false) = true) (hx : jR w v x) (hy : jR w b y) : t ≤ jz x - jz y := by
  split at e
  next s u =>
    rw [Bool.and_eq_true] at e
    have ht := of_decide_eq_true e.1
    have e := e.2
    split at e
    next z hz =>
      split at e
      next pp hp =>
        obtain ⟨q, m1, m2⟩ := jvn_ok hz
        obtain ⟨c, u1, u2, u3⟩ := h _ m1
        rw [m2] at u3
        obtain ⟨x', y', d1, d2, -, d4⟩ := u3
        obtain ⟨d5, -, -⟩ := d4 (fun z => by cases z)
        cases hy.one d1
        cases hx.one d2
        have hb := (jbd_ok h hp (show jR w (.inr z) c from u1)).2.2
        have hd := of_decide_eq_true e
        obtain ⟨a1, a2, rfl, rfl⟩ := jop23i d5
        by_cases hlt : a1.toInt < a2.toInt
        · show t ≤ a2.toInt - a1.toInt
          omega
        · have := ((jop23 d5).2 (by omega)).1
          omega
      next => cases e
    next => cases e
  next => cases e
theorem jdl_e {v b : jV} {t : Int} {w : jP} {x y : Value} (hx : jR w v x) (hy : jR w b y) (e : (jve v b && decide (t ≤ 0)) = true) : t ≤ jz x - jz y := by
  rw [Bool.and_eq_true] at e
  have := jve_ok e.1
  subst this
  cases hx.one hy
  have := of_decide_eq_true e.2
  omega
theorem jdl_ok {w : jP} {g : jS} (h : jT w g.2.1) : ∀ (n : Nat) {v b : jV} {t : Int} {x y : Value}, jR w v x → jR w b y → jdl n g v b t = true → t ≤ jz x - jz y := by
  intro n
  induction n with
  | zero =>
    intro v b t x y hx hy e
    unfold jdl at e
    dsimp only at e
    rcases jor2 e with e | e
    · exact jdl_e hx hy e
    · rcases jor2 e with e | e
      · cases e
      · rcases jor2 e with e | e
        · exact jdl_b h hx hy e
        · rcases jor2 e with e | e
          · cases e
          · exact jdl_c h e hx hy
  | succ n ih =>
    intro v b t x y hx hy e
    unfold jdl at e
    dsimp only at e
    rcases jor2 e with e | e
    · exact jdl_e hx hy e
    · rcases jor2 e with e | e
      · split at e
        next a c hd =>
          obtain ⟨x', y', d1, d2, d3, -⟩ := jof_ok h hd hx
          have d3 := (d3 rfl).2
          have := ih d1 hy e
          omega
        next =>
          split at e
          next z hz =>
            obtain ⟨u, u1, u2⟩ := jad_ok (b := z.1) (k := z.2) h hz hx
            have := ih u1 hy e
            omega
          next => cases e
      · rcases jor2 e with e | e
        · exact jdl_b h hx hy e
        · rcases jor2 e with e | e
          · split at e
            next z hz =>
              obtain ⟨u, u1, u2⟩ := jad_ok (b := z.1) (k := z.2) h hz hy
              have := ih hx u1 e
              omega
            next => cases e
          · exact jdl_c h e hx hy
theorem jdu_ok {w : jP} {g : jS} (h : jT w g.2.1) : ∀ (n : Nat) {v b : jV} {t : Int} {x y : Value}, jR w v x → jR w b y → jdu n g v b t = true → jz x - jz y ≤ t := by
  have he : ∀ {v b : jV} {t : Int} {x y : Value}, jR w v x → jR w b y → (jve v b && decide (0 ≤ t)) = true → jz x - jz y ≤ t := fun {v b t x y} hx hy e => by
    rw [Bool.and_eq_true] at e
    have := jve_ok e.1
    subst this
    cases hx.one hy
    have := of_decide_eq_true e.2
    omega
  have hb : ∀ {v b : jV} {t : Int} {x y : Value}, jR w v x → jR w b y → (match jbd g v, jbd g b with | some p, some q => decide (p.2.2 - q.2.1 ≤ t) | _, _ => false) = true → jz x - jz y ≤ t := fun {v b t x y} hx hy e => by
    split at e
    next p q h1 h2 =>
      have := (jbd_ok h h1 hx).2.2
      have := (jbd_ok h h2 hy).2.1
      have := of_decide_eq_true e
      omega
    next => cases e
  intro n
  induction n with
  | zero =>
    intro v b t x y hx hy e
    unfold jdu at e
    dsimp only at e
    rcases jor2 e with e | e
    · exact he hx hy e
    · rcases jor2 e with e | e
      · exact hb hx hy e
      · cases e
  | succ n ih =>
    intro v b t x y hx hy e
    unfold jdu at e
    dsimp only at e
    rcases jor2 e with e | e
    · exact he hx hy e
    · rcases jor2 e with e | e
      · exact hb hx hy e
      · split at e
        next x0 y0 hd =>
          obtain ⟨x', y', d1, d2, -, d4⟩ := jof_ok h hd hx
          obtain ⟨d5, d6, d7⟩ := d4 (fun z => by cases z)
          obtain ⟨a1, rfl, -⟩ := (show jI 0 (jz x') (jz x') x' from ⟨d6, Int.le_refl _, Int.le_refl _⟩).int
          obtain ⟨a2, rfl, -⟩ := (show jI 0 (jz y') (jz y') y' from ⟨d7, Int.le_refl _, Int.le_refl _⟩).int
          have d5 : some (Value.int (a1 &&& a2)) = some x := d5
          cases d5
          rcases jor2 e with e | e
          · split at e
            next pp hp =>
              rw [Bool.and_eq_true] at e
              have hz := of_decide_eq_true e.1
              have i1 : pp.2.1 ≤ a1.toInt := (jbd_ok h hp d1).2.1
              have := ih d1 hy e.2
              have h2 := (jand_1 (x := a1) (y := a2) (by omega)).2
              have h3 : jz (.int a1) = a1.toInt := rfl
              show (a1 &&& a2).toInt - jz y ≤ t
              omega
            next => cases e
          · split at e
            next pp hp =>
              rw [Bool.and_eq_true] at e
              have hz := of_decide_eq_true e.1
              have i1 : pp.2.1 ≤ a2.toInt := (jbd_ok h hp d2).2.1
              have := ih d2 hy e.2
              have h2 := (jand_2 (x := a1) (y := a2) (by omega)).2
              have h3 : jz (.int a2) = a2.toInt := rfl
              show (a1 &&& a2).toInt - jz y ≤ t
              omega
            next => cases e
        next =>
          split at e
          next z hz =>
            obtain ⟨u, u1, u2⟩ := jad_ok (b := z.1) (k := z.2) h hz hx
            have := ih u1 hy e
            omega
          next => cases e
/-! fields that are to be there; new numbers for fields -/
def jFv (w : jP) (p : xH) : List jFd → List jV → Prop
  | [], [] => True
  | f :: fs, e :: es => (∃ c v, p[f.1.1]? = some c ∧ c.2[f.1.2]? = some v ∧ jR w e v) ∧ jFv w p fs es
  | _, _ => False
theorem jFv.mono {w w' : jP} (h : jLe w w') {p : xH} : ∀ {fs : List jFd} {es : List jV}, jFv w p fs es → jFv w' p fs es
  | [], [], _ => trivial
  | [], _ :: _, k => absurd k (by simp [jFv])
  | _ :: _, [], k => absurd k (by simp [jFv])
  | f :: fs, e :: es, k => by
    obtain ⟨⟨c, v, h1, h2, h3⟩, k2⟩ := k
    exact ⟨⟨c, v, h1, h2, h3.mono h⟩, k2.mono h⟩
theorem jfs_ok {G : jGt} {p : xH} : ∀ {fs : List jFd} {w : jP} {g g' : jS} {es : List jV}, jSt G w g p → jfs G g fs = some (es, g') → ∃ w', jLe w w' ∧ jSt G w' g' p ∧ jFv w' p fs es
  | [], w, g, g', es, h, e => by cases e; exact ⟨w, jLe.refl w, h, trivial⟩
  | f :: fs, w, g, g', es, h, e => by
    unfold jfs at e
    split at e
    next z hz =>
      obtain ⟨u, hu, e⟩ := xmap e
      cases e
      obtain ⟨c, v, w1, c1, c2, l1, l2, l3⟩ := jfl_ok h hz
      obtain ⟨w2, m1, m2, m3⟩ := jfs_ok l2 hu
      exact ⟨w2, l1.trans m1, m2, ⟨c, v, c1, c2, l3.mono m1⟩, m3⟩
    next => cases e
def jFn (w : jP) (p : xH) : List jFd → List jV → List Value → Prop
  | [], [], [] => True
  | f :: fs, e :: es, v :: vs => (∃ c, p[f.1.1]? = some c ∧ c.2[f.1.2]? = some v) ∧ jI 0 f.2.1 f.2.2.1 v ∧ (f.2.2.2 = true → ∃ u, jR w e u ∧ jk u = jk v ∧ jz u ≤ jz v) ∧ jFn w p fs es vs
  | _, _, _ => False
theorem jFn.mono {w w' : jP} (h : jLe w w') {p : xH} : ∀ {fs : List jFd} {es : List jV} {vs : List Value}, jFn w p fs es vs → jFn w' p fs es vs
  | [], [], [], _ => trivial
  | f :: fs, e :: es, v :: vs, k => by
    obtain ⟨k1, k2, k3, k4⟩ := k
    exact ⟨k1, k2, fun z => by obtain ⟨u, u1, u2⟩ := k3 z; exact ⟨u, u1.mono h, u2⟩, k4.mono h⟩
  | [], [], _ :: _, k => absurd k (by simp [jFn])
  | [], _ :: _, [], k => absurd k (by simp [jFn])
  | [], _ :: _, _ :: _, k => absurd k (by simp [jFn])
  | _ :: _, [], [], k => absurd k (by simp [jFn])
  | _ :: _, [], _ :: _, k => absurd k (by simp [jFn])
  | _ :: _, _ :: _, [], k => absurd k (by simp [jFn])
theorem jnf_ok {G : jGt} {p : xH} : ∀ {fs : List jFd} {es : List jV} {vs : List Value} {w : jP} {g : jS}, jSt G w g p → jFn w p fs es vs → jSt G (w ++ vs.map Sum.inl) (jnf g fs es) p
  | [], [], [], w, g, h, _ => by simpa [jnf] using h
  | f :: fs, e :: es, v :: vs, w, g, h, k => by
    obtain ⟨⟨c, c1, c2⟩, k2, k3, k4⟩ := k
    have hd : jDf w (bif f.2.2.2 then some ((0, e, .inl (.int 0)) : jD) else none) v := by
      cases hb : f.2.2.2 with
      | false => trivial
      | true =>
        obtain ⟨u, u1, u2, u3⟩ := k3 hb
        exact ⟨u, .int 0, u1, rfl, fun _ => ⟨u2, u3⟩, fun z => absurd rfl z⟩
    obtain ⟨l1, l2, l3⟩ := h.put1 (r := f.1.1) (k := f.1.2) c1 c2 (q := (0, f.2.1, f.2.2.1, bif f.2.2.2 then some (0, e, .inl (.int 0)) else none)) k2 hd
    have := jnf_ok l2 (k4.mono l1)
    rw [List.map_cons, show w ++ Sum.inl v :: vs.map Sum.inl = (w ++ [Sum.inl v]) ++ vs.map Sum.inl by simp]
    exact this
  | [], [], _ :: _, _, _, _, k => absurd k (by simp [jFn])
  | [], _ :: _, [], _, _, _, k => absurd k (by simp [jFn])
  | [], _ :: _, _ :: _, _, _, _, k => absurd k (by simp [jFn])
  | _ :: _, [], [], _, _, _, k => absurd k (by simp [jFn])
  | _ :: _, [], _ :: _, _, _, _, k => absurd k (by simp [jFn])
  | _ :: _, _ :: _, [], _, _, _, k => absurd k (by simp [jFn])
/-- what is forgotten behind a call -/
theorem jwr_w {W : List (Nat × Nat)} {r : Nat} (h : jwr W r = false) (k : Nat) : jw W r k = false := by
  unfold jwr at h
  unfold jw
  rw [List.any_eq_false] at h ⊢
  intro x hx
  have := h x hx
  cases hb : Nat.beq x.1 r with
  | true => exact absurd hb this
  | false => simp
theorem jdr_ok {G : jGt} {W : List (Nat × Nat)} {w : jP} {g : jS} {p p' : xH} (h : jSt G w g p) (hG : GH G p') (hW : jWf W p p') : jSt G w (jdr W g) p' := by
  have cell : ∀ {r : Nat} {c : xE}, p[r]? = some c → ∃ c', p'[r]? = some c' := fun {r c} hc => by
    have h1 : (p'.map fun c => (c.1, c.2.length))[r]? = (p.map fun c => (c.1, c.2.length))[r]? := by rw [hW.1]
    rw [List.getElem?_map, List.getElem?_map, hc] at h1
    cases h2 : p'[r]? with
    | none => rw [h2] at h1; cases h1
    | some c' => exact ⟨c', rfl⟩
  refine ⟨h.1, h.2.1, fun e he => ?_, fun e he => ?_, hG⟩
  · obtain ⟨m1, m2⟩ := List.mem_filter.mp he
    obtain ⟨c, v, h1, h2, h3⟩ := h.2.2.1 e m1
    obtain ⟨c', hc'⟩ := cell h1
    have m2 : jw W e.1.1 e.1.2 = false := by simpa using m2
    exact ⟨c', v, hc', by rw [hW.2 _ _ _ _ h1 hc' m2]; exact h2, h3⟩
  · obtain ⟨m1, m2⟩ := List.mem_filter.mp he
    obtain ⟨c, j, v, h1, h2, h3, h4, h5⟩ := h.2.2.2.1 e m1
    obtain ⟨c', hc'⟩ := cell h1
    have m2 : jwr W e.1.1 = false := by simpa using m2
    exact ⟨c', j, v, hc', h2, h3, by rw [hW.2 _ _ _ _ h1 hc' (jwr_w m2 _)]; exact h4, h5⟩
end
section
/-! the bounded machine is sound: open loops, contracts -/
def jLn (ls : xL) : List (Nat × Int × Int) → List Value → Prop
  | [], [] => True
  | q :: l, v :: vs => xfd ls q.1 = some v ∧ jI 0 q.2.1 q.2.2 v ∧ jLn ls l vs
  | _, _ => False
theorem jLn_mk {ls : xL} : ∀ {L : List (Nat × Int × Int)}, (∀ q ∈ L, ∃ v, xfd ls q.1 = some v ∧ jI 0 q.2.1 q.2.2 v) → ∃ vs, jLn ls L vs
  | [], _ => ⟨[], trivial⟩
  | q :: l, h => by
    obtain ⟨v, h1, h2⟩ := h q List.mem_cons_self
    obtain ⟨vs, hs⟩ := jLn_mk (L := l) (fun q' hq => h q' (List.mem_cons_of_mem _ hq))
    exact ⟨v :: vs, h1, h2, hs⟩
theorem jLn_len {ls : xL} : ∀ {L : List (Nat × Int × Int)} {vs : List Value}, jLn ls L vs → vs.length = L.length
  | [], [], _ => rfl
  | [], _ :: _, h => absurd h (by simp [jLn])
  | _ :: _, [], h => absurd h (by simp [jLn])
  | q :: l, v :: vs, h => by simp [jLn_len h.2.2]
theorem jLn_get {ls : xL} : ∀ {L : List (Nat × Int × Int)} {vs : List Value} {k : Nat} {q : Nat × Int × Int}, jLn ls L vs → L[k]? = some q → ∃ v, vs[k]? = some v ∧ xfd ls q.1 = some v
  | [], [], k, q, _, e => by simp at e
  | [], _ :: _, _, _, h, _ => absurd h (by simp [jLn])
  | _ :: _, [], _, _, h, _ => absurd h (by simp [jLn])
  | q0 :: l, v :: vs, 0, q, h, e => by
    simp only [List.getElem?_cons_zero, Option.some.injEq] at e
    subst e
    exact ⟨v, rfl, h.1⟩
  | q0 :: l, v :: vs, k + 1, q, h, e => by
    simp only [List.getElem?_cons_succ] at e
    obtain ⟨u, u1, u2⟩ := jLn_get h.2.2 e
    exact ⟨u, u1, u2⟩
theorem jht_ok {ls : xL} : ∀ {L : List (Nat × Int × Int)} {vs : List Value} {w : jP} {tb : jTb}, jT w tb → jLn ls L vs → jT (w ++ vs.map Sum.inl) (jht w.length L ++ tb) ∧ jLs (w ++ vs.map Sum.inl) (jhl w.length L) ls
  | [], [], w, tb, h, _ => by
    refine ⟨by simpa [jht] using h, fun q hq => absurd hq List.not_mem_nil⟩
  | [], _ :: _, _, _, _, k => absurd k (by simp [jLn])
  | _ :: _, [], _, _, _, k => absurd k (by simp [jLn])
  | q :: l, v :: vs, w, tb, h, k => by
    obtain ⟨k1, k2, k3⟩ := k
    have hl : jLe w (w ++ [Sum.inl v]) := ⟨_, rfl⟩
    have hv : (w ++ [Sum.inl v])[w.length]? = some (Sum.inl v) := by simp
    obtain ⟨i1, i2⟩ := jht_ok (w := w ++ [Sum.inl v]) (h.mono hl) k3
    rw [List.length_append, List.length_singleton] at i1 i2
    have hap : w ++ (v :: vs).map Sum.inl = (w ++ [Sum.inl v]) ++ vs.map Sum.inl := by simp
    rw [hap]
    have hl2 : jLe (w ++ [Sum.inl v]) ((w ++ [Sum.inl v]) ++ vs.map Sum.inl) := ⟨_, rfl⟩
    refine ⟨fun e he => ?_, fun e he => ?_⟩
    · rcases List.mem_cons.mp he with rfl | he
      · exact ⟨v, hl2.get hv, k2, trivial⟩
      · exact i1 e he
    · rcases List.mem_cons.mp he with rfl | he
      · exact ⟨v, k1, hl2.get hv⟩
      · exact i2 e he
def jBase (r0 : jP) (d : jHd) : Prop := d.2.1 = r0.length ∧ jT r0 d.2.2.1 ∧ (∀ q ∈ d.2.2.2.1, ∃ u, jR r0 q.2 u) ∧ (∀ e ∈ d.2.2.2.2.1.1, ∃ u, jR r0 e.2 u) ∧ (∀ e ∈ d.2.2.2.2.1.2, (∃ u, jR r0 e.2 u) ∧ ∃ j : Int32, r0[e.1.2]? = some (.inl (.int j))) ∧ (∀ e ∈ d.2.2.2.2.2.2.2.1, ∃ u, jR r0 e u)
theorem jop2_ok {G : jGt} {r0 r1 : jP} {g : jS} {p : xH} (h : jSt G r1 g p) (hle : jLe r0 r1) : ∀ {fs : List jFd} {es : List jV}, (∀ e ∈ es, ∃ u, jR r0 e u) → jop2 g fs es = true → ∃ vs, jFn r0 p fs es vs ∧ vs.length = fs.length ∧ ∀ (k : Nat) (f : jFd), fs[k]? = some f → ∃ a v, jmg g.2.2.1 f.1.1 f.1.2 = some a ∧ jR r1 a v ∧ vs[k]? = some v
  | [], [], _, _ => ⟨[], trivial, rfl, fun k f e => by simp at e⟩
  | [], _ :: _, _, e => by cases e
  | _ :: _, [], _, e => by cases e
  | f :: fs, a0 :: es, hu, e => by
    unfold jop2 at e
    rw [Bool.and_eq_true] at e
    obtain ⟨vs, k1, k0, k2⟩ := jop2_ok h hle (fun x hx => hu x (List.mem_cons_of_mem _ hx)) e.2
    have e1 := e.1
    split at e1
    next a ha =>
      rw [Bool.and_eq_true] at e1
      obtain ⟨c, v, c1, c2, c3⟩ := h.2.2.1 _ (jmg_ok ha)
      have hI := jin_ok h.2.1 e1.1 c3
      obtain ⟨u, hu1⟩ := hu a0 List.mem_cons_self
      refine ⟨v :: vs, ⟨⟨c, c1, c2⟩, hI, fun hm => ?_, k1⟩, by simp [k0], fun k f' hf => ?_⟩
      · have e2 := e1.2
        rw [hm] at e2
        simp only [Bool.not_true, Bool.false_or, Bool.and_eq_true] at e2
        have hu2 := hu1.mono hle
        refine ⟨u, hu1, (jin_ok h.2.1 e2.1 hu2).1.trans hI.1.symm, ?_⟩
        have := jdl_ok h.2.1 12 c3 hu2 e2.2
        omega
      · cases k with
        | zero =>
          simp only [List.getElem?_cons_zero, Option.some.injEq] at hf
          subst hf
          exact ⟨a, v, ha, c3, rfl⟩
        | succ k =>
          simp only [List.getElem?_cons_succ] at hf ⊢
          exact k2 k f' hf
    next => cases e1
theorem jsm_ok {r1 : jP} {g : jS} (h : jT r1 g.2.1) {a b : jV} {x u : Value} (e : jsm g a b = true) (hx : jR r1 a x) (hu : jR r1 b u) : x = u := by
  have e := jve_ok e
  have h1 := jnm_ok h hx
  rw [e] at h1
  exact h1.one (jnm_ok h hu)
theorem jfit_ok {G : jGt} {r0 r1 : jP} {d : jHd} {g : jS} {als : jL} {ls : xL} {p : xH} (hB : jBase r0 d) (hle : jLe r0 r1) (h : jSt G r1 g p) (hl : jLs r1 als ls) (e : jfit d g als = true) :
    ∃ vs : List Value, jSt G (r0 ++ vs.map Sum.inl) (jhs d) p ∧ jLs (r0 ++ vs.map Sum.inl) (jhv d) ls ∧ (∀ a, jcv d g als = some a → ∃ x, jR r1 a x ∧ (r0 ++ vs.map Sum.inl)[d.2.1 + d.2.2.2.2.2.2.2.2.2]? = some (.inl x)) := by
  obtain ⟨b1, b2, b3, b4, b5, b6⟩ := hB
  unfold jfit at e
  rw [Bool.and_eq_true] at e
  obtain ⟨e1, e2⟩ := e
  unfold jop1 at e1
  simp only [Bool.and_eq_true, List.all_eq_true] at e1
  obtain ⟨⟨⟨e3, e4⟩, e5⟩, e6⟩ := e1
  obtain ⟨lv, hlv⟩ := jLn_mk (ls := ls) (L := d.2.2.2.2.2.1) (fun q hq => by
    have e7 := e3 q hq
    split at e7
    next a ha =>
      obtain ⟨v, v1, v2⟩ := hl _ (xfd_in ha)
      exact ⟨v, v1, jin_ok h.2.1 e7 v2⟩
    next => cases e7)
  obtain ⟨fv, f1, f0, f2⟩ := jop2_ok h hle b6 e2
  have hLe : jLe r0 (r0 ++ lv.map Sum.inl) := ⟨_, rfl⟩
  obtain ⟨t1, t2⟩ := jht_ok (tb := d.2.2.1) b2 hlv
  have hbase : jSt G (r0 ++ lv.map Sum.inl) (d.2.1 + d.2.2.2.2.2.1.length, jht d.2.1 d.2.2.2.2.2.1 ++ d.2.2.1, d.2.2.2.2.1.1, d.2.2.2.2.1.2) p := by
    refine ⟨?_, by rw [b1]; exact t1, fun q hq => ?_, fun q hq => ?_, h.2.2.2.2⟩
    · show d.2.1 + d.2.2.2.2.2.1.length = _
      rw [List.length_append, List.length_map, jLn_len hlv, b1]
    · obtain ⟨u, hu⟩ := b4 q hq
      have e7 := e5 q hq
      split at e7
      next a ha =>
        obtain ⟨c, v, c1, c2, c3⟩ := h.2.2.1 _ (jmg_ok ha)
        have := jsm_ok h.2.1 e7 c3 (hu.mono hle)
        subst this
        exact ⟨c, v, c1, c2, hu.mono hLe⟩
      next => cases e7
    · obtain ⟨⟨u, hu⟩, j0, hj0⟩ := b5 q hq
      have e7 := e6 q hq
      split at e7
      next a ha =>
        obtain ⟨c, j, v, c1, c2, c3, c4, c5⟩ := h.2.2.2.1 _ (jmg_ok ha)
        have := jsm_ok h.2.1 e7 c5 (hu.mono hle)
        subst this
        have c2 : r1[q.1.2]? = some (.inl (.int j)) := c2
        rw [hle.get hj0] at c2
        cases c2
        exact ⟨c, _, v, c1, hLe.get hj0, c3, c4, hu.mono hLe⟩
      next => cases e7
  have hnf := jnf_ok hbase (f1.mono hLe)
  have hap : (r0 ++ lv.map Sum.inl) ++ fv.map Sum.inl = r0 ++ (lv ++ fv).map Sum.inl := by simp
  rw [hap] at hnf
  have hLe2 : jLe (r0 ++ lv.map Sum.inl) (r0 ++ (lv ++ fv).map Sum.inl) := ⟨fv.map Sum.inl, hap.symm⟩
  refine ⟨lv ++ fv, hnf, fun q hq => ?_, fun a ha => ?_⟩
  · rcases List.mem_append.mp hq with hq | hq
    · rw [b1] at hq
      exact (t2.mono hLe2) q hq
    · obtain ⟨u, hu⟩ := b3 q hq
      have e7 := e4 q hq
      split at e7
      next a ha =>
        obtain ⟨v, v1, v2⟩ := hl _ (xfd_in ha)
        have := jsm_ok h.2.1 e7 v2 (hu.mono hle)
        subst this
        exact ⟨v, v1, hu.mono (hLe.trans hLe2)⟩
      next => cases e7
  · have hidx : ∀ k : Nat, (r0 ++ (lv ++ fv).map Sum.inl)[d.2.1 + k]? = ((lv ++ fv)[k]?).map Sum.inl := fun k => by
      rw [List.getElem?_append_right (by rw [b1]; omega), b1, Nat.add_sub_cancel_left, List.getElem?_map]
    rw [hidx]
    unfold jcv at ha
    split at ha
    next q hq =>
      obtain ⟨v, v1, v2⟩ := jLn_get hlv hq
      obtain ⟨v', v3, v4⟩ := hl _ (xfd_in ha)
      rw [v2] at v3
      cases v3
      refine ⟨v, v4, ?_⟩
      rw [List.getElem?_append_left (List.getElem?_eq_some_iff.mp v1).1, v1]
      rfl
    next hq =>
      have hge : lv.length ≤ d.2.2.2.2.2.2.2.2.2 := by
        rw [jLn_len hlv]
        exact List.getElem?_eq_none_iff.mp hq
      split at ha
      next f hf =>
        obtain ⟨a', v, v1, v2, v3⟩ := f2 _ f hf
        rw [ha] at v1
        cases v1
        refine ⟨v, v2, ?_⟩
        rw [List.getElem?_append_right hge, jLn_len hlv, v3]
        rfl
      next => cases ha
theorem jms_ok {r1 : jP} {d : jHd} {g : jS} {als : jL} (h : jT r1 g.2.1) (e : jms d g als = true) {z : Value} (hz : r1[d.2.1 + d.2.2.2.2.2.2.2.2.2]? = some (.inl z)) : ∃ a, jcv d g als = some a ∧ ∀ x, jR r1 a x → (d.2.2.2.2.2.2.2.2.1 = true → jz z < jz x) ∧ (d.2.2.2.2.2.2.2.2.1 = false → jz x < jz z) := by
  unfold jms at e
  split at e
  next a ha =>
    refine ⟨a, ha, fun x hx => ⟨fun hup => ?_, fun hup => ?_⟩⟩
    · rw [hup, cond_true] at e
      have := jdl_ok h 12 hx (show jR r1 (.inr (d.2.1 + d.2.2.2.2.2.2.2.2.2)) z from hz) e
      omega
    · rw [hup, cond_false] at e
      have := jdu_ok h 12 hx (show jR r1 (.inr (d.2.1 + d.2.2.2.2.2.2.2.2.2)) z from hz) e
      omega
  next => cases e
theorem jFv_ex {r : jP} {p : xH} : ∀ {fs : List jFd} {es : List jV}, jFv r p fs es → ∀ e ∈ es, ∃ u, jR r e u
  | [], [], _, e, h => absurd h List.not_mem_nil
  | [], _ :: _, k, _, _ => absurd k (by simp [jFv])
  | _ :: _, [], k, _, _ => absurd k (by simp [jFv])
  | f :: fs, a :: es, k, e, h => by
    rcases List.mem_cons.mp h with rfl | h
    · obtain ⟨c, v, -, -, h3⟩ := k.1
      exact ⟨v, h3⟩
    · exact jFv_ex k.2 e h
theorem jen_ok {G : jGt} {r : jP} {A : jA} {g : jS} {als : jL} {ls : xL} {p : xH} {z : jHd × jS} (h : jSt G r g p) (hl : jLs r als ls) (e : jen G A g als = some z) : z.1.1 = A.1.2 ∧ ∃ r0, jLe r r0 ∧ jSt G r0 z.2 p ∧ jBase r0 z.1 := by
  unfold jen at e
  split at e
  next y hy =>
    cases e
    obtain ⟨r0, l1, l2, l3⟩ := jfs_ok h hy
    refine ⟨rfl, r0, l1, l2, l2.1, l2.2.1, fun q hq => ?_, fun q hq => ?_, fun q hq => ?_, jFv_ex l3⟩
    · obtain ⟨m1, -⟩ := List.mem_filter.mp hq
      obtain ⟨v, -, v2⟩ := hl q m1
      exact ⟨v, v2.mono l1⟩
    · obtain ⟨m1, -⟩ := List.mem_filter.mp hq
      obtain ⟨c, v, -, -, h3⟩ := l2.2.2.1 q m1
      exact ⟨v, h3⟩
    · obtain ⟨m1, -⟩ := List.mem_filter.mp hq
      obtain ⟨c, j, v, -, h2, -, -, h5⟩ := l2.2.2.2.1 q m1
      exact ⟨⟨v, h5⟩, j, h2⟩
  next => cases e
/-! contracts -/
def jBxs : List jBx → List Value → Prop
  | [], [] => True
  | .inl u :: bs, v :: vs => v = u ∧ jBxs bs vs
  | .inr b :: bs, v :: vs => jI b.1 b.2.1 b.2.2 v ∧ jBxs bs vs
  | _, _ => False
def jPre (p : xH) (fs : List jFd) : Prop := ∀ f ∈ fs, ∃ c v, p[f.1.1]? = some c ∧ c.2[f.1.2]? = some v ∧ jI 0 f.2.1 f.2.2.1 v
def jRb : Option (Nat × Int × Int) → Option Value → Prop
  | none, none => True
  | some b, some v => jI b.1 b.2.1 b.2.2 v
  | _, _ => False
def jPost (p p' : xH) (fs : List jFd) : Prop := ∀ f ∈ fs, ∃ c0 v0 c1 v1, p[f.1.1]? = some c0 ∧ c0.2[f.1.2]? = some v0 ∧ p'[f.1.1]? = some c1 ∧ c1.2[f.1.2]? = some v1 ∧ jI 0 f.2.1 f.2.2.1 v1 ∧ (f.2.2.2 = true → jk v0 = jk v1 ∧ jz v0 ≤ jz v1)
def jCok (ro : List (List Int32)) (G : jGt) (c : jC) : Prop := ∀ q, xM[c.1]? = some q → ∀ (d : Nat) (args : List Value) (p : xH), c.2.1 ≤ d → GH G p → jBxs c.2.2.1 args → jPre p c.2.2.2.1 →
  ∃ n r p', ev ro n d q 0 (lv_args 0 args) [] p = some (r, p') ∧ GH G p' ∧ jWf c.2.2.2.2.1 p p' ∧ ∃ o ∈ c.2.2.2.2.2, jRb o.1 r ∧ jPost p p' o.2
theorem jab_ok {r : jP} {g : jS} (h : jT r g.2.1) : ∀ {as : List jV} {bs : List jBx} {vs : List Value}, jab g as bs = true → jSl r as vs → jBxs bs vs
  | [], [], [], _, _ => trivial
  | [], [], _ :: _, _, k => absurd k (by simp [jSl])
  | [], b :: bs, _, e, _ => by cases b <;> cases e
  | _ :: _, [], _, e, _ => by cases e
  | _ :: _, _ :: _, [], _, k => absurd k (by simp [jSl])
  | a :: as, .inl u :: bs, v :: vs, e, k => by
    unfold jab at e
    rw [Bool.and_eq_true] at e
    have := jve_ok e.1
    subst this
    exact ⟨k.1, jab_ok h e.2 k.2⟩
  | a :: as, .inr b :: bs, v :: vs, e, k => by
    unfold jab at e
    rw [Bool.and_eq_true] at e
    exact ⟨jin_ok h e.1 k.1, jab_ok h e.2 k.2⟩
theorem jfb_ok {G : jGt} {r : jP} {g : jS} {p : xH} (h : jSt G r g p) {c k : Nat} {lo hi : Int} (e : jfb G g c k lo hi = true) : ∃ cc v, p[c]? = some cc ∧ cc.2[k]? = some v ∧ jI 0 lo hi v := by
  unfold jfb at e
  split at e
  next a ha =>
    obtain ⟨cc, v, c1, c2, c3⟩ := h.2.2.1 _ (jmg_ok ha)
    exact ⟨cc, v, c1, c2, jin_ok h.2.1 e c3⟩
  next =>
    split at e
    next t fs hg =>
      obtain ⟨cc, hc, hok⟩ := h.2.2.2.2 _ _ hg
      have hc2 : cc.2.length = fs.length ∧ ∀ (k : Nat) (b : Value ⊕ (Int × Int)), fs[k]? = some b → ∃ v, cc.2[k]? = some v ∧ gFd b v := hok.2
      split at e
      next b hf =>
        obtain ⟨v, hv, hi'⟩ := hc2.2 _ _ hf
        have hi' : jI 0 b.1 b.2 v := hi'
        simp only [Bool.and_eq_true, decide_eq_true_eq] at e
        exact ⟨cc, v, hc, hv, hi'.1, by have := hi'.2.1; omega, by have := hi'.2.2; omega⟩
      next => cases e
    next => cases e
theorem jcf_ok {G : jGt} {r : jP} {g : jS} {p : xH} {y : Nat} {as : List jV} {vs : List Value} (h : jSt G r g p) (hs : jSl r as vs) : ∀ {cs : List jC} {c : jC}, jcf G g y as cs = some c → c ∈ cs ∧ c.1 = y ∧ jBxs c.2.2.1 vs ∧ jPre p c.2.2.2.1
  | [], c, e => by cases e
  | c0 :: cs, c, e => by
    unfold jcf at e
    cases hb : (Nat.beq c0.1 y && jab g as c0.2.2.1 && c0.2.2.2.1.all (fun f => jfb G g f.1.1 f.1.2 f.2.1 f.2.2.1)) with
    | true =>
      rw [hb] at e
      cases e
      simp only [Bool.and_eq_true, List.all_eq_true] at hb
      exact ⟨List.mem_cons_self, Nat.eq_of_beq_eq_true hb.1.1, jab_ok h.2.1 hb.1.2 hs, fun f hf => jfb_ok h (hb.2 f hf)⟩
    | false =>
      rw [hb] at e
      obtain ⟨h1, h2⟩ := jcf_ok h hs e
      exact ⟨List.mem_cons_of_mem _ h1, h2⟩
theorem jPost_fn {r : jP} {p p' : xH} : ∀ {fs : List jFd} {es : List jV}, jFv r p fs es → jPost p p' fs → ∃ vs, jFn r p' fs es vs
  | [], [], _, _ => ⟨[], trivial⟩
  | [], _ :: _, k, _ => absurd k (by simp [jFv])
  | _ :: _, [], k, _ => absurd k (by simp [jFv])
  | f :: fs, e :: es, k, hp => by
    obtain ⟨vs, hvs⟩ := jPost_fn k.2 (fun f' hf => hp f' (List.mem_cons_of_mem _ hf))
    obtain ⟨c, v, k1, k2, k3⟩ := k.1
    obtain ⟨c0, v0, c1, v1, h1, h2, h3, h4, h5, h6⟩ := hp f List.mem_cons_self
    rw [k1] at h1
    cases h1
    rw [k2] at h2
    cases h2
    exact ⟨v1 :: vs, ⟨c1, h3, h4⟩, h5, fun hm => ⟨v, k3, (h6 hm).1, (h6 hm).2⟩, hvs⟩
theorem jco_ok {G : jGt} {r : jP} {g : jS} {p p' : xH} {c : jC} {o : jOc} {z : Option jV × jS} {rv : Option Value} (h : jSt G r g p) (e : jco G g c o = some z) (hG : GH G p') (hW : jWf c.2.2.2.2.1 p p') (hR : jRb o.1 rv) (hP : jPost p p' o.2) : ∃ r', jLe r r' ∧ jSt G r' z.2 p' ∧ jRo r' z.1 rv := by
  unfold jco at e
  split at e
  next y hy =>
    obtain ⟨r0, l1, l2, l3⟩ := jfs_ok h hy
    obtain ⟨vs, hvs⟩ := jPost_fn l3 hP
    have h2 := jnf_ok (jdr_ok l2 hG hW) hvs
    have l4 : jLe r (r0 ++ vs.map Sum.inl) := l1.trans ⟨_, rfl⟩
    split at e
    next ho =>
      cases e
      rw [ho] at hR
      refine ⟨_, l4, h2, ?_⟩
      cases rv with
      | none => trivial
      | some v => exact absurd hR (by simp [jRb])
    next b ho =>
      cases e
      rw [ho] at hR
      cases rv with
      | none => exact absurd hR (by simp [jRb])
      | some v =>
        obtain ⟨m1, m2, m3⟩ := jfr_ok h2 (q := (b.1, b.2.1, b.2.2, none)) hR trivial
        exact ⟨_, l4.trans m1, m2, m3⟩
  next => cases e
end
section
/-! the bounded machine is sound: runs -/
abbrev jCf : Type := xQ × Nat × xL × List Value
def jK (ro : List (List Int32)) (Q : Option Value → xH → Prop) : List jCf → Nat → Option Value → xH → Prop
  | [], _, r, p => Q r p
  | f :: fr, d, r, p => ∃ n x, ev ro n (d + 1) f.1 f.2.1 f.2.2.1 (r.toList ++ f.2.2.2) p = some x ∧ jK ro Q fr (d + 1) x.1 x.2
def jJ (ro : List (List Int32)) (Q : Option Value → xH → Prop) (cfr : List jCf) (d : Nat) (q : xQ) (pc : Nat) (ls : xL) (st : List Value) (p : xH) : Prop := ∃ n x, ev ro n d q pc ls st p = some x ∧ jK ro Q cfr d x.1 x.2
section JJ
variable {ro : List (List Int32)} {Q : Option Value → xH → Prop} {cfr : List jCf} {d : Nat} {q : xQ} {pc : Nat} {ls : xL} {st : List Value} {p : xH} {i : Instr}
theorem jJ_s {ls' : xL} {st' : List Value} (hi : xcg q.2.2.2.2 pc = some i) (h1 : xs1 q.1 q.2.1 i ls st = some (ls', st')) (k : jJ ro Q cfr d q (pc + xil i) ls' st' p) : jJ ro Q cfr d q pc ls st p := by
  obtain ⟨n, x, e, hk⟩ := k
  exact ⟨n + 1, x, (ev_s hi h1).trans e, hk⟩
theorem jJ_b {pc' : Nat} {st' : List Value} (hi : xcg q.2.2.2.2 pc = some i) (h0 : xs1 q.1 q.2.1 i ls st = none) (h1 : xbr i pc st = some (pc', st')) (k : jJ ro Q cfr d q pc' ls st' p) : jJ ro Q cfr d q pc ls st p := by
  obtain ⟨n, x, e, hk⟩ := k
  exact ⟨n + 1, x, (ev_b hi h0 h1).trans e, hk⟩
theorem jJ_h {st' : List Value} {p' : xH} (hi : xcg q.2.2.2.2 pc = some i) (h0 : xs1 q.1 q.2.1 i ls st = none) (h1 : xbr i pc st = none) (h2 : xho ro q.1 q.2.2.1 i st p = some (st', p')) (k : jJ ro Q cfr d q (pc + xil i) ls st' p') : jJ ro Q cfr d q pc ls st p := by
  obtain ⟨n, x, e, hk⟩ := k
  exact ⟨n + 1, x, (ev_h hi h0 h1 h2).trans e, hk⟩
theorem jJ_r {r : Option Value} (hi : xcg q.2.2.2.2 pc = some i) (h0 : xs1 q.1 q.2.1 i ls st = none) (h1 : xbr i pc st = none) (h2 : xho ro q.1 q.2.2.1 i st p = none) (h3 : xrt q.2.2.2.1 i st = some r) (k : jK ro Q cfr d r p) : jJ ro Q cfr d q pc ls st p :=
  ⟨1, (r, p), ev_r hi h0 h1 h2 h3, k⟩
theorem jJ_m {rest : List Value} (hi : xcg q.2.2.2.2 pc = some i) (h0 : xs1 q.1 q.2.1 i ls st = none) (h1 : xbr i pc st = none) (h2 : xho ro q.1 q.2.2.1 i st p = none) (h3 : xrt q.2.2.2.1 i st = none) (h4 : xob q.1 i st = none) (h5 : xmm q.1 i st = some rest) (h8 : Nat.ble (xcs rest) 8 = true) (k : jJ ro Q cfr (d + 1) q (pc + 3) ls rest p) : jJ ro Q cfr (d + 1) q pc ls st p := by
  obtain ⟨n, x, e, hk⟩ := k
  exact ⟨n + 1, x, (ev_o hi h0 h1 h2 h3 h4 h5 h8).trans e, hk⟩
theorem jJ_y {rest : List Value} {p' : xH} (hi : xcg q.2.2.2.2 pc = some i) (h0 : xs1 q.1 q.2.1 i ls st = none) (h1 : xbr i pc st = none) (h2 : xho ro q.1 q.2.2.1 i st p = none) (h3 : xrt q.2.2.2.1 i st = none) (h4 : xob q.1 i st = none) (h5 : xmm q.1 i st = none) (h6 : xay q.1 i st p = some (rest, p')) (h8 : Nat.ble (xcs rest) 8 = true) (k : jJ ro Q cfr (d + 1) q (pc + 3) ls rest p') : jJ ro Q cfr (d + 1) q pc ls st p := by
  obtain ⟨n, x, e, hk⟩ := k
  exact ⟨n + 1, x, (ev_y hi h0 h1 h2 h3 h4 h5 h6 h8).trans e, hk⟩
theorem jJ_c {y : Nat} {q' : xQ} {as rest : List Value} {r : Option Value} {p' : xH} {n1 : Nat} (hi : xcg q.2.2.2.2 pc = some i) (h0 : xs1 q.1 q.2.1 i ls st = none) (h1 : xbr i pc st = none) (h2 : xho ro q.1 q.2.2.1 i st p = none) (h3 : xrt q.2.2.2.1 i st = none) (h4 : xob q.1 i st = none) (h5 : xmm q.1 i st = none) (h5b : xay q.1 i st p = none)
    (h6 : xca q.1 i st p = some (y, as, rest)) (h7 : xM[y]? = some q') (h8 : (Nat.ble (xcs rest) 8 && Nat.ble (xcs as) q'.2.1) = true) (h9 : ev ro n1 d q' 0 (lv_args 0 as) [] p = some (r, p')) (k : jJ ro Q cfr (d + 1) q (pc + 3) ls (r.toList ++ rest) p') : jJ ro Q cfr (d + 1) q pc ls st p := by
  obtain ⟨n, x, e, hk⟩ := k
  have e1 := ev_mores n h9
  have e2 := ev_mores n1 e
  rw [Nat.add_comm n n1] at e2
  exact ⟨n1 + n + 1, x, (ev_c hi h0 h1 h2 h3 h4 h5 h5b h6 h7 h8 e1).trans e2, hk⟩
end JJ
def jH (ro : List (List Int32)) (Q : Option Value → xH → Prop) (G : jGt) (W : List (Nat × Nat)) (p0 : xH) (ri : jP) (cfr : List jCf) (d : Nat) (q : xQ) (r : jP) (hd : jHd) : Prop :=
  ∃ r0 z, jLe ri r0 ∧ jLe r0 r ∧ jBase r0 hd ∧ r[hd.2.1 + hd.2.2.2.2.2.2.2.2.2]? = some (.inl z) ∧ ∀ (r' : jP) (ls : xL) (p : xH) (z' : Value), jLe r0 r' → jSt G r' (jhs hd) p → jLs r' (jhv hd) ls → jWf W p0 p → r'[hd.2.1 + hd.2.2.2.2.2.2.2.2.2]? = some (.inl z') →
    (hd.2.2.2.2.2.2.2.2.1 = true → jz z < jz z') → (hd.2.2.2.2.2.2.2.2.1 = false → jz z' < jz z) → jJ ro Q cfr d q hd.1 ls [] p
theorem jH.mono {ro : List (List Int32)} {Q : Option Value → xH → Prop} {G : jGt} {W : List (Nat × Nat)} {p0 : xH} {ri : jP} {cfr : List jCf} {d : Nat} {q : xQ} {r r' : jP} {hd : jHd} (h : jLe r r') (k : jH ro Q G W p0 ri cfr d q r hd) : jH ro Q G W p0 ri cfr d q r' hd := by
  obtain ⟨r0, z, a1, a2, a3, a4, a5⟩ := k
  exact ⟨r0, z, a1, a2.trans h, a3, h.get a4, a5⟩
def jFrs (ro : List (List Int32)) (Q : Option Value → xH → Prop) (G : jGt) (W : List (Nat × Nat)) (p0 : xH) (ri : jP) (r : jP) : List jFr → List jCf → Nat → Prop
  | [], [], _ => True
  | f :: fr, c :: cfr, d => (f.2.1 = c.1 ∧ f.2.2.1 = c.2.1 ∧ jLs r f.2.2.2.1 c.2.2.1 ∧ jSl r f.2.2.2.2.1 c.2.2.2 ∧ ∀ hd ∈ f.2.2.2.2.2, jH ro Q G W p0 ri cfr (d + 1) f.2.1 r hd) ∧ jFrs ro Q G W p0 ri r fr cfr (d + 1)
  | _, _, _ => False
theorem jFrs.mono {ro : List (List Int32)} {Q : Option Value → xH → Prop} {G : jGt} {W : List (Nat × Nat)} {p0 : xH} {ri : jP} {r r' : jP} (h : jLe r r') : ∀ {fr : List jFr} {cfr : List jCf} {d : Nat}, jFrs ro Q G W p0 ri r fr cfr d → jFrs ro Q G W p0 ri r' fr cfr d
  | [], [], _, _ => trivial
  | [], _ :: _, _, k => absurd k (by simp [jFrs])
  | _ :: _, [], _, k => absurd k (by simp [jFrs])
  | f :: fr, c :: cfr, d, k => by
    obtain ⟨⟨k1, k2, k3, k4, k5⟩, k6⟩ := k
    exact ⟨⟨k1, k2, k3.mono h, k4.mono h, fun hd hm => (k5 hd hm).mono h⟩, k6.mono h⟩
theorem jrg_ok : ∀ {n : Nat} {lo k : Int}, lo ≤ k → k < lo + n → k ∈ jrg n lo
  | 0, lo, k, h1, h2 => absurd h2 (by omega)
  | n + 1, lo, k, h1, h2 => by
    by_cases h : k = lo
    · subst h; exact List.mem_cons_self
    · exact List.mem_cons_of_mem _ (jrg_ok (n := n) (by omega) (by push_cast at h2; omega))
theorem jsv_ok2 {r : jP} {l : Nat} {als : jL} {ast : List jV} {ls : xL} {st : List Value} {a : jV} (hl : jLs r als ls) (hs : jSl r ast st) (e : jsv l als ast = some a) : ∃ v, jR r a v := by
  unfold jsv at e
  cases hb : Nat.beq l 99 with
  | true =>
    rw [hb, cond_true] at e
    cases ast with
    | nil => cases e
    | cons b bs =>
      cases e
      obtain ⟨v, vs, -, g1, -⟩ := hs.cons
      exact ⟨v, g1⟩
  | false =>
    rw [hb, cond_false] at e
    obtain ⟨v, -, h2⟩ := hl _ (xfd_in e)
    exact ⟨v, h2⟩
theorem jsl_ok {G : jGt} {E : jE} {r : jP} {g : jS} {p : xH} {sk : Bool} {m pc : Nat} {als : jL} {ast : List jV} {ls : xL} {st : List Value} {z : jV × List Int} (h : jSt G r g p) (hl : jLs r als ls) (hs : jSl r ast st) (e : jsl E sk m pc als ast g = some z) : ∃ v, jR r z.1 v ∧ jz v ∈ z.2 := by
  unfold jsl at e
  cases sk with
  | true => cases e
  | false =>
    rw [cond_false] at e
    split at e
    next l hl2 =>
      split at e
      next a ha =>
        obtain ⟨v, hv⟩ := jsv_ok2 hl hs ha
        have hv2 := jnm_ok h.2.1 hv
        split at e
        next s hs2 =>
          split at e
          next q hq =>
            cases e
            rw [hs2] at hv2
            obtain ⟨i1, i2, i3⟩ := jbd_ok h.2.1 hq hv2
            refine ⟨v, hv2, jrg_ok i2 ?_⟩
            omega
          next => cases e
        next => cases e
      next => cases e
    next => cases e
theorem jan_pc : ∀ {L : List jA} {m pc : Nat} {A : jA}, jan L m pc = some A → A.1.2 = pc
  | [], _, _, _, h => by cases h
  | a :: l, m, pc, A, h => by
    unfold jan at h
    cases hb : (Nat.beq a.1.1 m && Nat.beq a.1.2 pc) with
    | true =>
      rw [hb] at h
      cases h
      rw [Bool.and_eq_true] at hb
      exact Nat.eq_of_beq_eq_true hb.2
    | false => rw [hb] at h; exact jan_pc h
theorem jhf_ok : ∀ {L : List jHd} {pc : Nat} {d : jHd}, jhf L pc = some d → d ∈ L ∧ d.1 = pc
  | [], _, _, h => by cases h
  | a :: l, pc, d, h => by
    unfold jhf at h
    cases hb : Nat.beq a.1 pc with
    | true => rw [hb] at h; cases h; exact ⟨List.mem_cons_self, Nat.eq_of_beq_eq_true hb⟩
    | false => rw [hb] at h; obtain ⟨h1, h2⟩ := jhf_ok h; exact ⟨List.mem_cons_of_mem _ h1, h2⟩
theorem jmt_ok {l : List jV} (h : jmt l = true) : l = [] := by
  unfold jmt at h
  split at h
  next => rfl
  next => cases h
theorem jble {a b c : Nat} (h : a ≤ b) (e : Nat.ble b c = true) : Nat.ble a c = true := Nat.ble_eq.mpr (Nat.le_trans h (Nat.le_of_ble_eq_true e))
theorem jRo_list {r : jP} {ra : Option jV} {rv : Option Value} (h : jRo r ra rv) {ast : List jV} {st : List Value} (hs : jSl r ast st) : jSl r (ra.toList ++ ast) (rv.toList ++ st) := by
  cases ra with
  | none =>
    cases rv with
    | none => exact hs
    | some v => exact absurd h (by simp [jRo])
  | some a =>
    cases rv with
    | none => exact absurd h (by simp [jRo])
    | some v => exact ⟨h, hs⟩
theorem jwsub {W V : List (Nat × Nat)} (h : V.all (fun w => bif Nat.beq w.2 9999 then jwa W w.1 else jw W w.1 w.2) = true) : ∀ r j, jw V r j = true → jw W r j = true := by
  intro r j hj
  unfold jw at hj
  rw [List.any_eq_true] at hj
  obtain ⟨x, hx, hx2⟩ := hj
  rw [Bool.and_eq_true, Bool.or_eq_true] at hx2
  have h1 := List.all_eq_true.mp h x hx
  have hr := Nat.eq_of_beq_eq_true hx2.1
  subst hr
  cases hb : Nat.beq x.2 9999 with
  | true => rw [hb, cond_true] at h1; exact jwa_w h1 j
  | false =>
    rw [hb, cond_false] at h1
    rw [hb] at hx2
    rcases hx2.2 with z | z
    · cases z
    · rw [← Nat.eq_of_beq_eq_true z]; exact h1
set_option maxHeartbeats 8000000 in
theorem jx_ok {ro : List (List Int32)} (hro : jro ro) {E : jE} {bot : jS → Option jV → Bool} {Q : Option Value → xH → Prop} {p0 : xH} {ri : jP} (hcons : ∀ c ∈ E.2.2.1, jCok ro E.1 c)
    (hbot : ∀ (r : jP) (g : jS) (p : xH) (ra : Option jV) (rv : Option Value), jLe ri r → jSt E.1 r g p → jWf E.2.1 p0 p → jRo r ra rv → bot g ra = true → Q rv p) :
    ∀ (n : Nat) {sk : Bool} {dd : Nat} {fr : List jFr} {cx : List jHd} {m : Nat} {q : xQ} {pc : Nat} {als : jL} {ast : List jV} {g : jS}, jx E bot n sk dd fr cx m q pc als ast g = true →
    ∀ {r : jP} {cfr : List jCf} {d : Nat} {ls : xL} {st : List Value} {p : xH}, dd ≤ d → jLe ri r → jSt E.1 r g p → jLs r als ls → jSl r ast st → jWf E.2.1 p0 p → (∀ hd ∈ cx, jH ro Q E.1 E.2.1 p0 ri cfr d q r hd) → jFrs ro Q E.1 E.2.1 p0 ri r fr cfr d → jJ ro Q cfr d q pc ls st p := by
  intro n
  induction n with
  | zero => intro sk dd fr cx m q pc als ast g e; cases e
  | succ n ih =>
    intro sk dd fr cx m q pc als ast g e r cfr d ls st p hd hri h hl hs hw hcx hfr
    rw [jx_succ] at e
    unfold jxb at e
    split at e
    next A hA =>
      have hpc : A.1.2 = pc := by
        cases sk with
        | true => cases hA
        | false => exact jan_pc hA
      rw [Bool.and_eq_true] at e
      have hmt := jmt_ok e.1
      subst hmt
      cases hs.nil
      have e := e.2
      split at e
      next hd0 hh =>
        obtain ⟨m1, m2⟩ := jhf_ok hh
        rw [Bool.and_eq_true] at e
        obtain ⟨r0, z, a1, a2, a3, a4, a5⟩ := hcx hd0 m1
        obtain ⟨vs, k1, k2, k3⟩ := jfit_ok a3 a2 h hl e.1
        obtain ⟨a, ha, hz⟩ := jms_ok h.2.1 e.2 a4
        obtain ⟨x, x1, x2⟩ := k3 a ha
        rw [← m2]
        exact a5 _ ls p x ⟨_, rfl⟩ k1 k2 hw x2 (hz x x1).1 (hz x x1).2
      next =>
        split at e
        next z hz =>
          obtain ⟨b0, r0, b1, b2, b3⟩ := jen_ok h hl hz
          rw [Bool.and_eq_true, Bool.and_eq_true] at e
          obtain ⟨⟨e1, e9⟩, e2⟩ := e
          obtain ⟨vs, k1, k2, k3⟩ := jfit_ok b3 (jLe.refl r0) b2 (hl.mono b1) e1
          have loop : ∀ (N : Nat) (r' : jP) (ls : xL) (p : xH) (z' : Value), jLe r0 r' → jSt E.1 r' (jhs z.1) p → jLs r' (jhv z.1) ls → jWf E.2.1 p0 p → r'[z.1.2.1 + z.1.2.2.2.2.2.2.2.2.2]? = some (.inl z') →
              (z.1.2.2.2.2.2.2.2.2.1 = true → (9223372036854775807 - jz z').toNat < N) → (z.1.2.2.2.2.2.2.2.2.1 = false → (jz z' + 9223372036854775808).toNat < N) → jJ ro Q cfr d q pc ls [] p := by
            intro N
            induction N with
            | zero =>
              intro r' ls p z' _ _ _ _ _ h1 h2
              cases hup : z.1.2.2.2.2.2.2.2.2.1 with
              | true => exact absurd (h1 hup) (Nat.not_lt_zero _)
              | false => exact absurd (h2 hup) (Nat.not_lt_zero _)
            | succ N ihN =>
              intro r' ls p z' c1 c2 c3 c4 c5 c6 c7
              refine ih e2 hd ((hri.trans b1).trans c1) c2 c3 trivial c4 (fun hd1 hm => ?_) (hfr.mono (b1.trans c1))
              rcases List.mem_cons.mp hm with rfl | hm
              · refine ⟨r0, z', hri.trans b1, c1, b3, c5, fun r2 ls2 p2 z2 f1 f2 f3 f4 f5 f6 f7 => ?_⟩
                rw [show z.1.1 = pc from b0.trans hpc]
                have j1 := jzb z'
                have j2 := jzb z2
                refine ihN r2 ls2 p2 z2 f1 f2 f3 f4 f5 (fun hup => ?_) (fun hup => ?_)
                · have := f6 hup
                  have := c6 hup
                  omega
                · have := f7 hup
                  have := c7 hup
                  omega
              · exact (hcx hd1 hm).mono (b1.trans c1)
          obtain ⟨x, hx⟩ : ∃ x, (r0 ++ vs.map Sum.inl)[z.1.2.1 + z.1.2.2.2.2.2.2.2.2.2]? = some (Sum.inl x) := by
            cases hc : jcv z.1 z.2 als with
            | some a => obtain ⟨x, -, x2⟩ := k3 a hc; exact ⟨x, x2⟩
            | none => rw [hc] at e9; cases e9
          exact loop _ _ ls p x ⟨_, rfl⟩ k1 k2 hw hx (fun _ => Nat.lt_succ_of_le (Nat.le_max_left _ _)) (fun _ => Nat.lt_succ_of_le (Nat.le_max_right _ _))
        next => cases e
    next =>
      split at e
      next z hz =>
        obtain ⟨v, v1, v2⟩ := jsl_ok h hl hs hz
        have e1 := List.all_eq_true.mp e _ v2
        obtain ⟨g2, f1, f2⟩ := jcut_ok 4 (lo := jz v) (hi := jz v) h v1 (Int.le_refl _) (Int.le_refl _)
        rw [f1] at e1
        exact ih e1 hd hri f2 hl hs hw hcx hfr
      next =>
        split at e
        next => cases e
        next i hi =>
          split at e
          next z hz =>
            obtain ⟨ls', st', r', k1, k2, k3, k4, k5⟩ := jx1_ok (als' := z.1) (ast' := z.2.1) (g' := z.2.2) h hz hl hs
            exact jJ_s hi k1 (ih e hd (hri.trans k2) k3 k4 k5 hw (fun hd1 hm => (hcx hd1 hm).mono k2) (hfr.mono k2))
          next =>
            split at e
            next l hz =>
              obtain ⟨n1, u, hu, st', r', k1, k2, k3, k4⟩ := jbr_ok h hz hs
              have e1 := List.all_eq_true.mp e u hu
              exact jJ_b hi (n1 _ _ _) k1 (ih e1 hd (hri.trans k2) k3 (hl.mono k2) k4 hw (fun hd1 hm => (hcx hd1 hm).mono k2) (hfr.mono k2))
            next =>
              split at e
              next z hz =>
                obtain ⟨n1, n2, st', p', r', k1, k2, k3, k4, k5⟩ := jho_ok (ast' := z.1) (g' := z.2) hro h hz hs
                exact jJ_h hi (n1 _ _ _) (n2 _) (k1 _) (ih e hd (hri.trans k2) k3 (hl.mono k2) k4 (k5 p0 hw) (fun hd1 hm => (hcx hd1 hm).mono k2) (hfr.mono k2))
              next =>
                split at e
                next rv hz =>
                  obtain ⟨n1, n2, n3, v, k1, k2⟩ := jrt_ok h hz hs
                  refine jJ_r hi (n1 _ _ _) (n2 _) (n3 _ _ _ _) k1 ?_
                  split at e
                  next =>
                    cases cfr with
                    | nil => exact hbot r g p rv v hri h hw k2 e
                    | cons c cs => exact absurd hfr (by simp [jFrs])
                  next f fr' =>
                    cases cfr with
                    | nil => exact absurd hfr (by simp [jFrs])
                    | cons c cs =>
                      obtain ⟨⟨f1, f2, f3, f4, f5⟩, f6⟩ := hfr
                      have := ih e (Nat.succ_le_succ hd) hri h f3 (jRo_list k2 f4) hw f5 f6
                      rw [f1, f2] at this
                      exact this
                next =>
                  split at e
                  next => cases e
                  next dd' =>
                    obtain ⟨d', rfl⟩ : ∃ d', d = d' + 1 := ⟨d - 1, by omega⟩
                    split at e
                    next z hz =>
                      rw [Bool.and_eq_true] at e
                      obtain ⟨n1, n2, n3, n4, n5, crest, r', k1, k2, k3, k4, v, vs, k5, k6, k7⟩ := jmm_ok (rest := z.1) (g' := z.2) h hz hs
                      have hc : Nat.ble (xcs crest) 8 = true := by
                        rw [k5]
                        have h1 := jcs_ok h.2.1 k7
                        have h2 := Nat.le_of_ble_eq_true e.1
                        simp only [xcs, List.map_cons, List.sum_cons] at h1 ⊢
                        exact Nat.ble_eq.mpr (by omega)
                      exact jJ_m hi (n1 _ _ _) (n2 _) (n3 _ _ _ _) (n4 _) n5 k1 hc (ih e.2 hd (hri.trans k2) k3 (hl.mono k2) k4 hw (fun hd1 hm => (hcx hd1 hm).mono k2) (hfr.mono k2))
                    next =>
                      split at e
                      next z hz =>
                        rw [Bool.and_eq_true] at e
                        obtain ⟨n1, n2, n3, n4, n5, n6, crest, p', k1, k2, k3, k4⟩ := jay_ok (rest := z.1) (g' := z.2) h hz hs
                        exact jJ_y hi (n1 _ _ _) (n2 _) (n3 _ _ _ _) (n4 _) n5 n6 k1 (jble (jcs_ok h.2.1 k3) e.1) (ih e.2 hd hri k2 hl k3 (k4 p0 hw) hcx hfr)
                      next =>
                        split at e
                        next => cases e
                        next y as rest hz =>
                          split at e
                          next => cases e
                          next q' hq' =>
                            obtain ⟨n1, n2, n3, n4, n5, n6, n7, cas, crest, k1, k2, k3⟩ := jca_ok h hz hs
                            rw [Bool.and_eq_true, Bool.and_eq_true] at e
                            obtain ⟨⟨e1, e2⟩, e3⟩ := e
                            have h8 : (Nat.ble (xcs crest) 8 && Nat.ble (xcs cas) q'.2.1) = true := by
                              rw [jble (jcs_ok h.2.1 k3) e1, jble (jcs_ok h.2.1 k2) e2]; rfl
                            split at e3
                            next c hc =>
                              rw [Bool.and_eq_true, Bool.and_eq_true] at e3
                              obtain ⟨⟨e4, e5⟩, e6⟩ := e3
                              obtain ⟨c1, c2, c3, c4⟩ := jcf_ok h k2 hc
                              obtain ⟨nn, rv, p', f1, f2, f3, o, f4, f5, f6⟩ := hcons c c1 q' (by rw [c2]; exact hq') d' cas p (Nat.le_trans (Nat.le_of_ble_eq_true e4) (Nat.le_of_succ_le_succ hd)) h.2.2.2.2 c3 c4
                              have e7 := List.all_eq_true.mp e6 o f4
                              split at e7
                              next z hz2 =>
                                obtain ⟨r', l1, l2, l3⟩ := jco_ok h hz2 f2 f3 f5 f6
                                exact jJ_c hi (n1 _ _ _) (n2 _) (n3 _ _ _) (n4 _) n5 n6 n7 k1 hq' h8 f1 (ih e7 hd (hri.trans l1) l2 (hl.mono l1) (jRo_list l3 (k3.mono l1)) (hw.trans f3 (jwsub e5)) (fun hd1 hm => (hcx hd1 hm).mono l1) (hfr.mono l1))
                              next => cases e7
                            next =>
                              rw [Bool.and_eq_true] at e3
                              have := ih e3.2 (cfr := (q, pc + 3, ls, crest) :: cfr) (Nat.le_of_succ_le_succ hd) hri h (jLs_args h.2.1 k2 e3.1) (show jSl r [] [] from trivial) hw (fun hd1 hm => absurd hm List.not_mem_nil) ⟨⟨rfl, rfl, hl, k3, hcx⟩, hfr⟩
                              obtain ⟨nn, x, f1, n2', x2, f2, f3⟩ := this
                              exact jJ_c hi (n1 _ _ _) (n2 _) (n3 _ _ _) (n4 _) n5 n6 n7 k1 hq' h8 f1 ⟨n2', x2, f2, f3⟩
end
section
/-! checks of contracts, of calls, of two calls behind one another; what they give -/
def jia : jS → List jBx → List jV × jS
  | g, [] => ([], g)
  | g, .inl v :: bs => (.inl v :: (jia g bs).1, (jia g bs).2)
  | g, .inr b :: bs => (.inr g.1 :: (jia (jfr g (b.1, b.2.1, b.2.2, none)).2 bs).1, (jia (jfr g (b.1, b.2.1, b.2.2, none)).2 bs).2)
def jfo (G : jGt) : jS → List jOc → Option (List (List jV) × jS)
  | g, [] => some ([], g)
  | g, o :: os => match jfs G g o.2 with
    | some z => (jfo G z.2 os).map fun w => (z.1 :: w.1, w.2)
    | none => none
def jrv (g : jS) (rv : Option jV) (b : Option (Nat × Int × Int)) : Bool := match rv, b with
  | none, none => true
  | some a, some b => jin g a b.1 b.2.1 b.2.2
  | _, _ => false
def jbt : List jOc → List (List jV) → jS → Option jV → Bool
  | o :: os, e :: es, g, rv => (jrv g rv o.1 && jop2 g o.2 e) || jbt os es g rv
  | _, _, _, _ => false
def jck (cs : List jC) (c : jC) (la : List jA) (ls : List ((Nat × Nat) × Nat)) : Bool := match xM[c.1]? with
  | some q => match jfo jGG (jnf (jia (0, [], [], []) c.2.2.1).2 c.2.2.2.1 (c.2.2.2.1.map fun _ => .inl (.int 0))) c.2.2.2.2.2 with
    | some z => (c.2.2.2.1.all (fun f => !f.2.2.2) && jkw z.2 (jia (0, [], [], []) c.2.2.1).1) && jx (jGG, c.2.2.2.2.1, cs, la, ls) (jbt c.2.2.2.2.2 z.1) 100000 false c.2.1 [] [] c.1 q 0 (jlv z.2 0 (jia (0, [], [], []) c.2.2.1).1) [] z.2
    | none => false
  | none => false
theorem jia_ok {G : jGt} {p : xH} : ∀ {bs : List jBx} {vs : List Value} {w : jP} {g : jS}, jSt G w g p → jBxs bs vs → ∃ w', jLe w w' ∧ jSt G w' (jia g bs).2 p ∧ jSl w' (jia g bs).1 vs
  | [], [], w, g, h, _ => ⟨w, jLe.refl w, h, trivial⟩
  | [], _ :: _, _, _, _, k => absurd k (by simp [jBxs])
  | .inl u :: bs, [], _, _, _, k => absurd k (by simp [jBxs])
  | .inr u :: bs, [], _, _, _, k => absurd k (by simp [jBxs])
  | .inl u :: bs, v :: vs, w, g, h, k => by
    obtain ⟨w', h1, h2, h3⟩ := jia_ok h k.2
    exact ⟨w', h1, h2, k.1, h3⟩
  | .inr b :: bs, v :: vs, w, g, h, k => by
    obtain ⟨l1, l2, l3⟩ := jfr_ok h (q := (b.1, b.2.1, b.2.2, none)) k.1 trivial
    obtain ⟨w', h1, h2, h3⟩ := jia_ok l2 k.2
    exact ⟨w', l1.trans h1, h2, l3.mono h1, h3⟩
def jFo (w : jP) (p : xH) : List jOc → List (List jV) → Prop
  | [], [] => True
  | o :: os, e :: es => jFv w p o.2 e ∧ jFo w p os es
  | _, _ => False
theorem jFo.mono {w w' : jP} (h : jLe w w') {p : xH} : ∀ {os : List jOc} {es : List (List jV)}, jFo w p os es → jFo w' p os es
  | [], [], _ => trivial
  | [], _ :: _, k => absurd k (by simp [jFo])
  | _ :: _, [], k => absurd k (by simp [jFo])
  | _ :: _, _ :: _, k => ⟨k.1.mono h, k.2.mono h⟩
theorem jfo_ok {G : jGt} {p : xH} : ∀ {os : List jOc} {w : jP} {g g' : jS} {es : List (List jV)}, jSt G w g p → jfo G g os = some (es, g') → ∃ w', jLe w w' ∧ jSt G w' g' p ∧ jFo w' p os es
  | [], w, g, g', es, h, e => by cases e; exact ⟨w, jLe.refl w, h, trivial⟩
  | o :: os, w, g, g', es, h, e => by
    unfold jfo at e
    split at e
    next z hz =>
      obtain ⟨u, hu, e⟩ := xmap e
      cases e
      obtain ⟨w1, l1, l2, l3⟩ := jfs_ok (es := z.1) (g' := z.2) h hz
      obtain ⟨w2, m1, m2, m3⟩ := jfo_ok (es := u.1) (g' := u.2) l2 hu
      exact ⟨w2, l1.trans m1, m2, l3.mono m1, m3⟩
    next => cases e
theorem jPost_of {w : jP} {p p' : xH} : ∀ {fs : List jFd} {es : List jV} {vs : List Value}, jFv w p fs es → jFn w p' fs es vs → jPost p p' fs
  | [], _, _, _, _ => fun f hf => absurd hf List.not_mem_nil
  | _ :: _, [], _, k, _ => absurd k (by simp [jFv])
  | _ :: _, _ :: _, [], _, k => absurd k (by simp [jFn])
  | f :: fs, e :: es, v :: vs, k, n => by
    intro f' hf
    rcases List.mem_cons.mp hf with rfl | hf
    · obtain ⟨c0, v0, h1, h2, h3⟩ := k.1
      obtain ⟨⟨c1, n1, n2⟩, n3, n4, -⟩ := n
      refine ⟨c0, v0, c1, v, h1, h2, n1, n2, n3, fun hm => ?_⟩
      obtain ⟨u, u1, u2, u3⟩ := n4 hm
      cases u1.one h3
      exact ⟨u2, u3⟩
    · exact jPost_of k.2 n.2.2.2 f' hf
theorem jbt_ok {G : jGt} {r0 r : jP} {g : jS} {p p' : xH} {ra : Option jV} {rv : Option Value} (h : jSt G r g p') (hle : jLe r0 r) (hr : jRo r ra rv) : ∀ {os : List jOc} {es : List (List jV)}, jFo r0 p os es → jbt os es g ra = true → ∃ o ∈ os, jRb o.1 rv ∧ jPost p p' o.2
  | [], _, _, e => by cases ‹List (List jV)› <;> cases e
  | _ :: _, [], _, e => by cases e
  | o :: os, e0 :: es, k, e => by
    unfold jbt at e
    rw [Bool.or_eq_true] at e
    rcases e with e | e
    · rw [Bool.and_eq_true] at e
      obtain ⟨vs, f1, -, -⟩ := jop2_ok h hle (jFv_ex k.1) e.2
      refine ⟨o, List.mem_cons_self, ?_, jPost_of k.1 f1⟩
      have e1 := e.1
      unfold jrv at e1
      split at e1
      next hb =>
        rw [hb]
        cases rv with
        | none => trivial
        | some v => exact absurd hr (by simp [jRo])
      next a b hb =>
        rw [hb]
        cases rv with
        | none => exact absurd hr (by simp [jRo])
        | some v => exact jin_ok h.2.1 e1 hr
      next => cases e1
    · obtain ⟨o', h1, h2⟩ := jbt_ok h hle hr k.2 e
      exact ⟨o', List.mem_cons_of_mem _ h1, h2⟩
theorem jPre_fn {p : xH} : ∀ {fs : List jFd}, jPre p fs → fs.all (fun f => !f.2.2.2) = true → ∃ vs, jFn [] p fs (fs.map fun _ => .inl (.int 0)) vs
  | [], _, _ => ⟨[], trivial⟩
  | f :: fs, h, e => by
    rw [List.all_cons, Bool.and_eq_true] at e
    obtain ⟨vs, hvs⟩ := jPre_fn (fun f' hf => h f' (List.mem_cons_of_mem _ hf)) e.2
    obtain ⟨c, v, h1, h2, h3⟩ := h f List.mem_cons_self
    exact ⟨v :: vs, ⟨c, h1, h2⟩, h3, (fun hm => by have e1 := e.1; rw [hm] at e1; cases e1), hvs⟩
theorem jFn_up {w : jP} {p : xH} {fs : List jFd} {es : List jV} {vs : List Value} (h : jFn [] p fs es vs) : jFn w p fs es vs := h.mono ⟨w, rfl⟩
theorem jck_ok {ro : List (List Int32)} (hro : jro ro) {cs : List jC} {c : jC} {la : List jA} {ls : List ((Nat × Nat) × Nat)} (e : jck cs c la ls = true) (hcs : ∀ k ∈ cs, jCok ro jGG k) : jCok ro jGG c := by
  intro q hq d args p hd hG hb hp
  unfold jck at e
  rw [hq] at e
  dsimp only at e
  split at e
  next z hz =>
    rw [Bool.and_eq_true, Bool.and_eq_true] at e
    obtain ⟨⟨e1, e2⟩, e3⟩ := e
    have h0 : jSt jGG [] (0, [], [], []) p := ⟨rfl, fun q hq => absurd hq List.not_mem_nil, fun q hq => absurd hq List.not_mem_nil, fun q hq => absurd hq List.not_mem_nil, hG⟩
    obtain ⟨w1, l1, l2, l3⟩ := jia_ok h0 hb
    obtain ⟨vs, hvs⟩ := jPre_fn hp e1
    have h2 := jnf_ok l2 (jFn_up (w := w1) hvs)
    obtain ⟨w3, m1, m2, m3⟩ := jfo_ok (es := z.1) (g' := z.2) h2 hz
    have l3 := (l3.mono (⟨_, rfl⟩ : jLe w1 (w1 ++ vs.map Sum.inl))).mono m1
    obtain ⟨n, x, f1, f2⟩ := jx_ok hro (E := (jGG, c.2.2.2.2.1, cs, la, ls)) (Q := fun r p' => GH jGG p' ∧ jWf c.2.2.2.2.1 p p' ∧ ∃ o ∈ c.2.2.2.2.2, jRb o.1 r ∧ jPost p p' o.2) (p0 := p) (ri := w3) hcs
      (fun r g p' ra rv hr hs hw hro2 hbt => ⟨hs.2.2.2.2, hw, jbt_ok hs hr hro2 m3 hbt⟩) 100000 e3 (cfr := []) hd (jLe.refl w3) m2 (jLs_args m2.2.1 l3 e2) (show jSl w3 [] [] from trivial) (jWf.refl _ p) (fun hd1 hm => absurd hm List.not_mem_nil) trivial
    exact ⟨n, x.1, x.2, f1, f2.1, f2.2.1, f2.2.2⟩
  next => cases e
/-! relations of fields: equal, or no greater -/
abbrev jRl : Type := List ((Nat × Nat) × (Nat × Nat) × Bool)
def jRel (p : xH) (R : jRl) : Prop := ∀ x ∈ R, ∃ ca va cb vb, p[x.1.1]? = some ca ∧ ca.2[x.1.2]? = some va ∧ p[x.2.1.1]? = some cb ∧ cb.2[x.2.1.2]? = some vb ∧ (x.2.2 = true → va = vb) ∧ (x.2.2 = false → jk va = jk vb ∧ jz va ≤ jz vb)
/-- the relations as numbers -/
def jre (G : jGt) : jS → jRl → Option jS
  | g, [] => some g
  | g, x :: R => match jfl G g x.1.1 x.1.2 with
    | some a => bif x.2.2 then jre G (a.2.1, a.2.2.1, ((x.2.1.1, x.2.1.2), a.1) :: a.2.2.2.1, a.2.2.2.2) R
      else match jfl G a.2 x.2.1.1 x.2.1.2 with
        | some b => match jbd b.2 b.1 with
          | some q => jre G (b.2.1 + 1, (b.2.1, (q.1, q.2.1, q.2.2, some (0, a.1, .inl (.int 0)))) :: b.2.2.1, ((x.2.1.1, x.2.1.2), .inr b.2.1) :: b.2.2.2.1, b.2.2.2.2) R
          | none => none
        | none => none
    | none => none
def jrc (g : jS) (R : jRl) : Bool := R.all fun x => match jmg g.2.2.1 x.1.1 x.1.2, jmg g.2.2.1 x.2.1.1 x.2.1.2 with
  | some a, some b => bif x.2.2 then jsm g a b else jin g a 0 (-2147483648) 2147483647 && jin g b 0 (-2147483648) 2147483647 && jdl 12 g b a 0
  | _, _ => false
theorem jre_ok {G : jGt} {p : xH} : ∀ {R : jRl} {w : jP} {g g' : jS}, jSt G w g p → jRel p R → jre G g R = some g' → ∃ w', jLe w w' ∧ jSt G w' g' p
  | [], w, g, g', h, _, e => by cases e; exact ⟨w, jLe.refl w, h⟩
  | x :: R, w, g, g', h, hR, e => by
    obtain ⟨ca, va, cb, vb, r1, r2, r3, r4, r5, r6⟩ := hR x List.mem_cons_self
    have hR2 : jRel p R := fun y hy => hR y (List.mem_cons_of_mem _ hy)
    unfold jre at e
    split at e
    next a ha =>
      obtain ⟨c, v, w1, c1, c2, l1, l2, l3⟩ := jfl_ok (a := a.1) (g' := a.2) h ha
      rw [r1] at c1
      cases c1
      rw [r2] at c2
      cases c2
      cases hb : x.2.2 with
      | true =>
        rw [hb, cond_true] at e
        have h2 : jSt G w1 (a.2.1, a.2.2.1, ((x.2.1.1, x.2.1.2), a.1) :: a.2.2.2.1, a.2.2.2.2) p := by
          refine ⟨l2.1, l2.2.1, fun q hq => ?_, l2.2.2.2.1, l2.2.2.2.2⟩
          rcases List.mem_cons.mp hq with rfl | hq
          · exact ⟨cb, vb, r3, r4, by rw [← r5 hb]; exact l3⟩
          · exact l2.2.2.1 q hq
        obtain ⟨w2, m1, m2⟩ := jre_ok h2 hR2 e
        exact ⟨w2, l1.trans m1, m2⟩
      | false =>
        rw [hb, cond_false] at e
        split at e
        next b hb2 =>
          obtain ⟨c', v', w2, c3, c4, m1, m2, m3⟩ := jfl_ok (a := b.1) (g' := b.2) l2 hb2
          rw [r3] at c3
          cases c3
          rw [r4] at c4
          cases c4
          split at e
          next q hq =>
            have hI := jbd_ok m2.2.1 hq m3
            obtain ⟨n1, n2, n3⟩ := m2.put1 (r := x.2.1.1) (k := x.2.1.2) r3 r4 (q := (q.1, q.2.1, q.2.2, some (0, a.1, .inl (.int 0)))) hI ⟨va, .int 0, l3.mono m1, rfl, fun _ => r6 hb, fun z => absurd rfl z⟩
            obtain ⟨w3, o1, o2⟩ := jre_ok n2 hR2 e
            exact ⟨w3, ((l1.trans m1).trans n1).trans o1, o2⟩
          next => cases e
        next => cases e
    next => cases e
theorem jrc_ok {G : jGt} {w : jP} {g : jS} {p : xH} {R : jRl} (h : jSt G w g p) (e : jrc g R = true) : jRel p R := by
  intro x hx
  have e1 := List.all_eq_true.mp e x hx
  split at e1
  next a b ha hb =>
    obtain ⟨ca, va, a1, a2, a3⟩ := h.2.2.1 _ (jmg_ok ha)
    obtain ⟨cb, vb, b1, b2, b3⟩ := h.2.2.1 _ (jmg_ok hb)
    refine ⟨ca, va, cb, vb, a1, a2, b1, b2, fun hq => ?_, fun hq => ?_⟩
    · rw [hq, cond_true] at e1
      exact jsm_ok h.2.1 e1 a3 b3
    · rw [hq, cond_false, Bool.and_eq_true, Bool.and_eq_true] at e1
      obtain ⟨⟨e2, e3⟩, e4⟩ := e1
      refine ⟨(jin_ok h.2.1 e2 a3).1.trans (jin_ok h.2.1 e3 b3).1.symm, ?_⟩
      have := jdl_ok h.2.1 12 b3 a3 e4
      omega
  next => cases e1
/-- what holds ahead of every call: bounds and relations -/
def jInv (R : jRl) (p : xH) : Prop := GH jGG p ∧ jRel p R
/-- one call that keeps the relations; what it answers is of kind k -/
abbrev jW0 : List (Nat × Nat) := (List.range 128).map fun r => (r, 9999)
def jci (R : jRl) (cs : List jC) (m D : Nat) (bs : List jBx) (k : Nat) (la : List jA) (ls : List ((Nat × Nat) × Nat)) : Bool := match xM[m]? with
  | some q => match jre jGG (jia (0, [], [], []) bs).2 R with
    | some g => jkw g (jia (0, [], [], []) bs).1 && jx (jGG, jW0, cs, la, ls) (fun g rv => jrv g rv (some (k, -9223372036854775808, 9223372036854775807)) && jrc g R) 100000 false D [] [] m q 0 (jlv g 0 (jia (0, [], [], []) bs).1) [] g
    | none => false
  | none => false
theorem jci_ok {ro : List (List Int32)} (hro : jro ro) {R : jRl} {cs : List jC} {m D k : Nat} {bs : List jBx} {la : List jA} {ls : List ((Nat × Nat) × Nat)} (e : jci R cs m D bs k la ls = true) (hcs : ∀ k ∈ cs, jCok ro jGG k) {q : xQ} (hq : xM[m]? = some q) {d : Nat} {args : List Value} {p : xH} (hd : D ≤ d) (hp : jInv R p) (hb : jBxs bs args) :
    ∃ n v p', ev ro n d q 0 (lv_args 0 args) [] p = some (some v, p') ∧ jInv R p' ∧ jk v = k ∧ (p'.map fun c => (c.1, c.2.length)) = (p.map fun c => (c.1, c.2.length)) := by
  unfold jci at e
  rw [hq] at e
  dsimp only at e
  split at e
  next g hg =>
    rw [Bool.and_eq_true] at e
    obtain ⟨e2, e3⟩ := e
    have h0 : jSt jGG [] (0, [], [], []) p := ⟨rfl, fun q hq => absurd hq List.not_mem_nil, fun q hq => absurd hq List.not_mem_nil, fun q hq => absurd hq List.not_mem_nil, hp.1⟩
    obtain ⟨w1, l1, l2, l3⟩ := jia_ok h0 hb
    obtain ⟨w2, m1, m2⟩ := jre_ok l2 hp.2 hg
    obtain ⟨n, x, f1, f2⟩ := jx_ok hro (E := (jGG, jW0, cs, la, ls)) (Q := fun r p' => ∃ v, r = some v ∧ jInv R p' ∧ jk v = k ∧ (p'.map fun c => (c.1, c.2.length)) = (p.map fun c => (c.1, c.2.length))) (p0 := p) (ri := w2) hcs
      (fun r g p' ra rv hr hs hw hro2 hbt => by
        rw [Bool.and_eq_true] at hbt
        obtain ⟨b1, b2⟩ := hbt
        unfold jrv at b1
        split at b1
        next h1 => cases h1
        next a b h1 =>
          cases h1
          cases rv with
          | none => exact absurd hro2 (by simp [jRo])
          | some v => exact ⟨v, rfl, ⟨hs.2.2.2.2, jrc_ok hs b2⟩, (jin_ok hs.2.1 b1 hro2).1, hw.1⟩
        next => cases b1) 100000 e3 (cfr := []) hd (jLe.refl w2) m2 (jLs_args m2.2.1 (l3.mono m1) e2) (show jSl w2 [] [] from trivial) (jWf.refl _ p) (fun hd1 hm => absurd hm List.not_mem_nil) trivial
    obtain ⟨v, f3, f4⟩ := f2
    exact ⟨n, v, x.2, by rw [f1]; exact congrArg some (Prod.ext f3 rfl), f4⟩
  next => cases e
theorem jok_inv {ro : List (List Int32)} {R : jRl} {c : jC} (h : jCok ro jGG c) {k : Nat} (hR : (R.all fun x => !jw c.2.2.2.2.1 x.1.1 x.1.2 && !jw c.2.2.2.2.1 x.2.1.1 x.2.1.2) = true) (hk : (c.2.2.2.2.2.all fun o => match o.1 with | some b => Nat.beq b.1 k | none => false) = true) (hpre : c.2.2.2.1 = []) {q : xQ} (hq : xM[c.1]? = some q) {d : Nat} {args : List Value} {p : xH} (hd : c.2.1 ≤ d) (hp : jInv R p) (hb : jBxs c.2.2.1 args) :
    ∃ n v p', ev ro n d q 0 (lv_args 0 args) [] p = some (some v, p') ∧ jInv R p' ∧ jk v = k ∧ (p'.map fun c => (c.1, c.2.length)) = (p.map fun c => (c.1, c.2.length)) := by
  obtain ⟨n, r, p', e1, e2, e3, o, e4, e5, -⟩ := h q hq d args p hd hp.1 hb (fun f hf => by rw [hpre] at hf; exact absurd hf List.not_mem_nil)
  have h1 := List.all_eq_true.mp hk o e4
  split at h1
  next b ho =>
    rw [ho] at e5
    cases r with
    | none => exact absurd e5 (by simp [jRb])
    | some v =>
      have e5 : jI b.1 b.2.1 b.2.2 v := e5
      refine ⟨n, v, p', e1, ⟨e2, fun x hx => ?_⟩, e5.1.trans (Nat.eq_of_beq_eq_true h1), e3.1⟩
      obtain ⟨ca, va, cb, vb, a1, a2, a3, a4, a5, a6⟩ := hp.2 x hx
      have h2 := List.all_eq_true.mp hR x hx
      rw [Bool.and_eq_true, Bool.not_eq_true', Bool.not_eq_true'] at h2
      have cell : ∀ {r : Nat} {c : xE}, p[r]? = some c → ∃ c', p'[r]? = some c' := fun {r c} hc => by
        have h1 : (p'.map fun c => (c.1, c.2.length))[r]? = (p.map fun c => (c.1, c.2.length))[r]? := by rw [e3.1]
        rw [List.getElem?_map, List.getElem?_map, hc] at h1
        cases h2 : p'[r]? with
        | none => rw [h2] at h1; cases h1
        | some c' => exact ⟨c', rfl⟩
      obtain ⟨ca', b1⟩ := cell a1
      obtain ⟨cb', b2⟩ := cell a3
      exact ⟨ca', va, cb', vb, b1, by rw [e3.2 _ _ _ _ a1 b1 h2.1]; exact a2, b2, by rw [e3.2 _ _ _ _ a3 b2 h2.2]; exact a4, a5, a6⟩
  next => cases h1
/-- two calls with the same arguments behind one another; c: their answers are compared -/
def jcj (R : jRl) (cs : List jC) (m1 m2 D : Nat) (u1 u2 : Value) (bs : List jBx) (k : Nat) (c : Bool) (la1 : List jA) (la2 : List jA) (ls : List ((Nat × Nat) × Nat)) : Bool := match xM[m1]?, xM[m2]? with
  | some q1, some q2 => match jre jGG (jia (0, [], [], []) bs).2 R with
    | some g => jkw g (jia (0, [], [], []) bs).1 && jx (jGG, jW0, cs, la1, ls) (fun g rv => match rv with
        | some a => jin g a k (-9223372036854775808) 9223372036854775807 && jkw g (jia (0, [], [], []) bs).1 && jx (jGG, jW0, cs, la2, ls) (fun g rv => match rv with
          | some b => jin g b k (-9223372036854775808) 9223372036854775807 && (!c || jsm g a b) && jrc g R
          | none => false) 100000 false D [] [] m2 q2 0 (jlv g 0 (.inl u2 :: (jia (0, [], [], []) bs).1)) [] g
        | none => false) 100000 false D [] [] m1 q1 0 (jlv g 0 (.inl u1 :: (jia (0, [], [], []) bs).1)) [] g
    | none => false
  | _, _ => false
theorem jcj_ok {ro : List (List Int32)} (hro : jro ro) {R : jRl} {cs : List jC} {m1 m2 D k : Nat} {u1 u2 : Value} {c : Bool} {bs : List jBx} {la1 la2 : List jA} {ls : List ((Nat × Nat) × Nat)} (e : jcj R cs m1 m2 D u1 u2 bs k c la1 la2 ls = true) (hcs : ∀ k ∈ cs, jCok ro jGG k) {q1 q2 : xQ} (hq1 : xM[m1]? = some q1) (hq2 : xM[m2]? = some q2) {d : Nat} {args : List Value} {p : xH} (hd : D ≤ d) (hp : jInv R p) (hb : jBxs bs args) :
    ∃ n1 v1 p1 n2 v2 p2, ev ro n1 d q1 0 (lv_args 0 (u1 :: args)) [] p = some (some v1, p1) ∧ ev ro n2 d q2 0 (lv_args 0 (u2 :: args)) [] p1 = some (some v2, p2) ∧ jInv R p2 ∧ jk v1 = k ∧ jk v2 = k ∧ (c = true → v1 = v2) ∧ (p2.map fun c => (c.1, c.2.length)) = (p.map fun c => (c.1, c.2.length)) := by
  unfold jcj at e
  rw [hq1, hq2] at e
  dsimp only at e
  split at e
  next g hg =>
    rw [Bool.and_eq_true] at e
    obtain ⟨e2, e3⟩ := e
    have h0 : jSt jGG [] (0, [], [], []) p := ⟨rfl, fun q hq => absurd hq List.not_mem_nil, fun q hq => absurd hq List.not_mem_nil, fun q hq => absurd hq List.not_mem_nil, hp.1⟩
    obtain ⟨w1, l1, l2, l3⟩ := jia_ok h0 hb
    obtain ⟨w2, n1, n2⟩ := jre_ok l2 hp.2 hg
    have l3 := l3.mono n1
    have hk : ∀ {g : jS} {l : List jV} {u : Value}, jkw g l = true → jkw g (.inl u :: l) = true := fun {g l u} h => by
      unfold jkw at h ⊢
      rw [List.all_cons, h]; rfl
    obtain ⟨n, x, f1, f2⟩ := jx_ok hro (E := (jGG, jW0, cs, la1, ls)) (Q := fun r p1 => ∃ v1, r = some v1 ∧ jk v1 = k ∧ ∃ n2 v2 p2, ev ro n2 d q2 0 (lv_args 0 (u2 :: args)) [] p1 = some (some v2, p2) ∧ jInv R p2 ∧ jk v2 = k ∧ (c = true → v1 = v2) ∧ (p2.map fun c => (c.1, c.2.length)) = (p.map fun c => (c.1, c.2.length))) (p0 := p) (ri := w2) hcs
      (fun r g p1 ra rv hr hs hw hro2 hbt => by
        split at hbt
        next a =>
          rw [Bool.and_eq_true, Bool.and_eq_true] at hbt
          obtain ⟨⟨b1, b2⟩, b3⟩ := hbt
          cases rv with
          | none => exact absurd hro2 (by simp [jRo])
          | some v1 =>
            refine ⟨v1, rfl, (jin_ok hs.2.1 b1 hro2).1, ?_⟩
            obtain ⟨n2, x2, g1, g2⟩ := jx_ok hro (E := (jGG, jW0, cs, la2, ls)) (Q := fun r2 p2 => ∃ v2, r2 = some v2 ∧ jInv R p2 ∧ jk v2 = k ∧ (c = true → v1 = v2) ∧ (p2.map fun c => (c.1, c.2.length)) = (p.map fun c => (c.1, c.2.length))) (p0 := p1) (ri := r) hcs
              (fun r2 gg p2 ra2 rv2 hr2 hs2 hw2 hro3 hbt2 => by
                split at hbt2
                next b =>
                  rw [Bool.and_eq_true, Bool.and_eq_true] at hbt2
                  obtain ⟨⟨t1, t2⟩, t3⟩ := hbt2
                  cases rv2 with
                  | none => exact absurd hro3 (by simp [jRo])
                  | some v2 =>
                    refine ⟨v2, rfl, ⟨hs2.2.2.2.2, jrc_ok hs2 t3⟩, (jin_ok hs2.2.1 t1 hro3).1, fun hc => ?_, hw2.1.trans hw.1⟩
                    rw [hc] at t2
                    exact jsm_ok hs2.2.1 t2 (show jR r2 a v1 from jR.mono hr2 hro2) hro3
                next => cases hbt2) 100000 b3 (cfr := []) hd (jLe.refl r) hs (jLs_args hs.2.1 (show jSl r (.inl u2 :: _) (u2 :: args) from ⟨rfl, l3.mono hr⟩) (hk b2)) (show jSl r [] [] from trivial) (jWf.refl _ p1) (fun hd1 hm => absurd hm List.not_mem_nil) trivial
            obtain ⟨v2, g3, g4⟩ := g2
            exact ⟨n2, v2, x2.2, by rw [g1]; exact congrArg some (Prod.ext g3 rfl), g4⟩
        next => cases hbt) 100000 e3 (cfr := []) hd (jLe.refl w2) n2 (jLs_args n2.2.1 (show jSl w2 (.inl u1 :: _) (u1 :: args) from ⟨rfl, l3⟩) (hk e2)) (show jSl w2 [] [] from trivial) (jWf.refl _ p) (fun hd1 hm => absurd hm List.not_mem_nil) trivial
    obtain ⟨v1, f3, f4, n2, v2, p2, f5, f6⟩ := f2
    exact ⟨n, v1, x.2, n2, v2, p2, by rw [f1]; exact congrArg some (Prod.ext f3 rfl), f5, f6.1, f4, f6.2.1, f6.2.2.1, f6.2.2.2⟩
  next => cases e
end
section
/-- holds -/
def kc_0 : jC := (43, 2, [.inl (.ref 20), .inr (0, (-2147483648), 2147483647), .inr (0, (-2147483648), 2147483647), .inr (0, (-2147483648), 2147483647), .inr (0, (-2147483648), 2147483647), .inr (0, (-2147483648), 2147483647)], [], [(20, 4), (23, 9999), (24, 9999)], [(some (0, 0, 1), [])])
def kl_0 : List jA := [((43, 92), [(7, 0, 9999), (8, 0, 128)], [], [(20, 4)], [], true, 1)]
def ks_0 : List ((Nat × Nat) × Nat) := [((215, 22), 99)]
/-- isAfter -/
def kc_1 : jC := (49, 3, [.inl (.ref 32), .inr (0, 0, 6), .inr (0, 0, 6), .inr (0, 0, 12)], [], [(20, 4), (23, 9999), (24, 9999)], [(some (0, 0, 1), [])])
def kl_1 : List jA := []
def ks_1 : List ((Nat × Nat) × Nat) := [((215, 22), 99)]
/-- isWith -/
def kc_2 : jC := (50, 3, [.inl (.ref 32), .inr (0, 0, 6), .inr (0, (-2147483648), 2147483647), .inr (0, 0, 6), .inr (0, (-2147483648), 2147483647)], [], [(20, 4), (23, 9999), (24, 9999)], [(some (0, 0, 1), [])])
def kl_2 : List jA := []
def ks_2 : List ((Nat × Nat) × Nat) := [((215, 22), 99)]
/-- lookAround -/
def kc_3 : jC := (52, 4, [.inl (.ref 32)], [], [(20, 4), (23, 9999), (24, 9999), (33, 9999)], [(none, [])])
def kl_3 : List jA := [((52, 2), [(1, 0, 7)], [], [], [], true, 0), ((52, 23), [(1, 0, 7)], [], [], [], true, 0), ((52, 38), [(2, 1, 7)], [], [], [], true, 0)]
def ks_3 : List ((Nat × Nat) × Nat) := [((215, 22), 99)]
/-- pairsAfter -/
def kc_4 : jC := (53, 4, [.inl (.ref 32), .inr (0, 0, 12)], [], [(20, 4), (23, 9999), (24, 9999)], [(some (0, (-2147483648), 2147483647), [])])
def kl_4 : List jA := [((53, 4), [(2, (-2147483648), 2147483647), (3, 0, 7)], [], [], [], true, 1), ((53, 20), [(2, (-2147483648), 2147483647), (4, 1, 7)], [], [], [], true, 1)]
def ks_4 : List ((Nat × Nat) × Nat) := [((215, 22), 99)]
/-- isKind -/
def kc_5 : jC := (55, 0, [.inl (.ref 32), .inr (0, (-2147483648), 2147483647)], [], [], [(some (0, 0, 1), [])])
def kl_5 : List jA := [((55, 2), [(2, 0, 7)], [], [], [], true, 0)]
def ks_5 : List ((Nat × Nat) × Nat) := [((215, 22), 99)]
/-- takeTurn -/
def kc_6 : jC := (26, 1, [.inl (.ref 34), .inr (0, 0, 6), .inr (0, (-2147483648), 2147483647)], [], [(35, 9999), (36, 9999), (37, 9999), (38, 9999), (39, 9999)], [(some (0, (-2147483648), 2147483647), [])])
def kl_6 : List jA := [((12, 4), [(2, (-2147483648), 2147483647), (3, 0, 4)], [], [], [], true, 1), ((26, 10), [(3, 0, 30), (4, 0, 4)], [], [(36, 9999)], [], true, 1), ((27, 2), [(2, 0, 5)], [], [], [], true, 0), ((28, 5), [(3, (-2147483648), 2147483647), (4, 0, 7)], [], [], [], true, 1), ((29, 9), [(4, 0, 31)], [], [], [], true, 0)]
def ks_6 : List ((Nat × Nat) × Nat) := [((215, 22), 99)]
/-- layWithout -/
def kc_7 : jC := (25, 2, [.inl (.ref 34), .inr (0, (-2147483648), 2147483647)], [], [(35, 9999), (36, 9999), (37, 9999), (38, 9999), (39, 9999)], [(none, [])])
def kl_7 : List jA := [((25, 4), [(2, 0, 127), (3, 0, 7)], [], [], [], true, 1)]
def ks_7 : List ((Nat × Nat) × Nat) := [((215, 22), 99)]
/-- leastToCome -/
def kc_8 : jC := (37, 2, [.inl (.ref 34), .inr (0, (-2147483648), 2147483647), .inr (0, (-2147483648), 2147483647)], [], [(35, 9999), (36, 9999), (37, 9999), (38, 9999), (39, 9999)], [(some (0, (-2147483648), 2147483647), [])])
def kl_8 : List jA := [((37, 5), [(3, (-2147483648), 2147483647), (4, 0, 7)], [], [], [], true, 1)]
def ks_8 : List ((Nat × Nat) × Nat) := [((215, 22), 99)]
/-- orderFrom7 -/
def kc_9 : jC := (35, 1, [.inl (.ref 34), .inr (0, 7, 7), .inr (0, (-2147483648), 2147483647), .inr (0, (-2147483648), 2147483647)], [], [(34, 9), (41, 9999)], [(none, [])])
def kl_9 : List jA := [((38, 16), [(2, 0, 7)], [], [], [], true, 0)]
def ks_9 : List ((Nat × Nat) × Nat) := [((215, 22), 99)]
/-- orderFrom6 -/
def kc_10 : jC := (35, 3, [.inl (.ref 34), .inr (0, 6, 6), .inr (0, (-2147483648), 2147483647), .inr (0, (-2147483648), 2147483647)], [], [(34, 9), (35, 9999), (36, 9999), (37, 9999), (38, 9999), (39, 9999), (40, 9999), (41, 9999)], [(none, [])])
def kl_10 : List jA := [((35, 34), [(4, 0, 7)], [], [(34, 9)], [], true, 0), ((38, 16), [(2, 0, 6)], [], [], [], true, 0)]
def ks_10 : List ((Nat × Nat) × Nat) := [((215, 22), 99)]
/-- orderFrom5 -/
def kc_11 : jC := (35, 5, [.inl (.ref 34), .inr (0, 5, 5), .inr (0, (-2147483648), 2147483647), .inr (0, (-2147483648), 2147483647)], [], [(34, 9), (35, 9999), (36, 9999), (37, 9999), (38, 9999), (39, 9999), (40, 9999), (41, 9999)], [(none, [])])
def kl_11 : List jA := [((35, 34), [(4, 0, 7)], [], [(34, 9)], [], true, 0), ((38, 16), [(2, 0, 5)], [], [], [], true, 0)]
def ks_11 : List ((Nat × Nat) × Nat) := [((215, 22), 99)]
/-- orderFrom4 -/
def kc_12 : jC := (35, 7, [.inl (.ref 34), .inr (0, 4, 4), .inr (0, (-2147483648), 2147483647), .inr (0, (-2147483648), 2147483647)], [], [(34, 9), (35, 9999), (36, 9999), (37, 9999), (38, 9999), (39, 9999), (40, 9999), (41, 9999)], [(none, [])])
def kl_12 : List jA := [((35, 34), [(4, 0, 7)], [], [(34, 9)], [], true, 0), ((38, 16), [(2, 0, 4)], [], [], [], true, 0)]
def ks_12 : List ((Nat × Nat) × Nat) := [((215, 22), 99)]
/-- orderFrom3 -/
def kc_13 : jC := (35, 9, [.inl (.ref 34), .inr (0, 3, 3), .inr (0, (-2147483648), 2147483647), .inr (0, (-2147483648), 2147483647)], [], [(34, 9), (35, 9999), (36, 9999), (37, 9999), (38, 9999), (39, 9999), (40, 9999), (41, 9999)], [(none, [])])
def kl_13 : List jA := [((35, 34), [(4, 0, 7)], [], [(34, 9)], [], true, 0), ((38, 16), [(2, 0, 3)], [], [], [], true, 0)]
def ks_13 : List ((Nat × Nat) × Nat) := [((215, 22), 99)]
/-- orderFrom2 -/
def kc_14 : jC := (35, 11, [.inl (.ref 34), .inr (0, 2, 2), .inr (0, (-2147483648), 2147483647), .inr (0, (-2147483648), 2147483647)], [], [(34, 9), (35, 9999), (36, 9999), (37, 9999), (38, 9999), (39, 9999), (40, 9999), (41, 9999)], [(none, [])])
def kl_14 : List jA := [((35, 34), [(4, 0, 7)], [], [(34, 9)], [], true, 0), ((38, 16), [(2, 0, 2)], [], [], [], true, 0)]
def ks_14 : List ((Nat × Nat) × Nat) := [((215, 22), 99)]
/-- orderFrom1 -/
def kc_15 : jC := (35, 13, [.inl (.ref 34), .inr (0, 1, 1), .inr (0, (-2147483648), 2147483647), .inr (0, (-2147483648), 2147483647)], [], [(34, 9), (35, 9999), (36, 9999), (37, 9999), (38, 9999), (39, 9999), (40, 9999), (41, 9999)], [(none, [])])
def kl_15 : List jA := [((35, 34), [(4, 0, 7)], [], [(34, 9)], [], true, 0), ((38, 16), [(2, 0, 1)], [], [], [], true, 0)]
def ks_15 : List ((Nat × Nat) × Nat) := [((215, 22), 99)]
/-- orderFrom0 -/
def kc_16 : jC := (35, 15, [.inl (.ref 34), .inr (0, 0, 0), .inr (0, (-2147483648), 2147483647), .inr (0, (-2147483648), 2147483647)], [], [(34, 9), (35, 9999), (36, 9999), (37, 9999), (38, 9999), (39, 9999), (40, 9999), (41, 9999)], [(none, [])])
def kl_16 : List jA := [((35, 34), [(4, 0, 7)], [], [(34, 9)], [], true, 0)]
def ks_16 : List ((Nat × Nat) × Nat) := [((215, 22), 99)]
/-- findClashes -/
def kc_17 : jC := (119, 4, [.inl (.ref 44), .inr (0, 0, 6), .inr (0, 0, 6)], [], [(20, 4), (23, 9999), (24, 9999), (45, 9999)], [(none, [])])
def kl_17 : List jA := [((119, 19), [(3, 1, 7)], [], [], [], true, 0), ((119, 36), [(4, 0, 127), (5, 0, 7)], [], [], [], true, 1)]
def ks_17 : List ((Nat × Nat) × Nat) := [((215, 22), 99)]
/-- mustWear -/
def kc_18 : jC := (123, 0, [.inl (.ref 44), .inr (0, 0, 7)], [], [], [(some (0, (-2147483648), 2147483647), [])])
def kl_18 : List jA := [((123, 4), [(2, (-2147483648), 2147483647), (3, 0, 7)], [], [], [], true, 1)]
def ks_18 : List ((Nat × Nat) × Nat) := [((215, 22), 99)]
/-- leavesFree -/
def kc_19 : jC := (122, 0, [.inl (.ref 44), .inr (0, 0, 6), .inr (0, 0, 6)], [], [(46, 9999)], [(some (0, 0, 1), [])])
def kl_19 : List jA := [((122, 4), [(3, 1, 7)], [], [], [], true, 0)]
def ks_19 : List ((Nat × Nat) × Nat) := [((215, 22), 99)]
/-- chooseFrom7 -/
def kc_20 : jC := (120, 1, [.inl (.ref 44), .inr (0, 7, 7), .inr (0, (-2147483648), 2147483647)], [], [(44, 6), (48, 9999)], [(none, [])])
def kl_20 : List jA := [((120, 33), [(3, 0, 7)], [], [], [], true, 0)]
def ks_20 : List ((Nat × Nat) × Nat) := [((215, 22), 99)]
/-- chooseFrom6 -/
def kc_21 : jC := (120, 3, [.inl (.ref 44), .inr (0, 6, 6), .inr (0, (-2147483648), 2147483647)], [], [(44, 6), (46, 9999), (47, 9999), (48, 9999)], [(none, [])])
def kl_21 : List jA := [((120, 33), [(3, 0, 6)], [], [], [], true, 0), ((120, 65), [(3, 0, 7)], [], [(44, 6)], [], true, 0)]
def ks_21 : List ((Nat × Nat) × Nat) := [((215, 22), 99)]
/-- chooseFrom5 -/
def kc_22 : jC := (120, 5, [.inl (.ref 44), .inr (0, 5, 5), .inr (0, (-2147483648), 2147483647)], [], [(44, 6), (46, 9999), (47, 9999), (48, 9999)], [(none, [])])
def kl_22 : List jA := [((120, 33), [(3, 0, 5)], [], [], [], true, 0), ((120, 65), [(3, 0, 7)], [], [(44, 6)], [], true, 0)]
def ks_22 : List ((Nat × Nat) × Nat) := [((215, 22), 99)]
/-- chooseFrom4 -/
def kc_23 : jC := (120, 7, [.inl (.ref 44), .inr (0, 4, 4), .inr (0, (-2147483648), 2147483647)], [], [(44, 6), (46, 9999), (47, 9999), (48, 9999)], [(none, [])])
def kl_23 : List jA := [((120, 33), [(3, 0, 4)], [], [], [], true, 0), ((120, 65), [(3, 0, 7)], [], [(44, 6)], [], true, 0)]
def ks_23 : List ((Nat × Nat) × Nat) := [((215, 22), 99)]
/-- chooseFrom3 -/
def kc_24 : jC := (120, 9, [.inl (.ref 44), .inr (0, 3, 3), .inr (0, (-2147483648), 2147483647)], [], [(44, 6), (46, 9999), (47, 9999), (48, 9999)], [(none, [])])
def kl_24 : List jA := [((120, 33), [(3, 0, 3)], [], [], [], true, 0), ((120, 65), [(3, 0, 7)], [], [(44, 6)], [], true, 0)]
def ks_24 : List ((Nat × Nat) × Nat) := [((215, 22), 99)]
/-- chooseFrom2 -/
def kc_25 : jC := (120, 11, [.inl (.ref 44), .inr (0, 2, 2), .inr (0, (-2147483648), 2147483647)], [], [(44, 6), (46, 9999), (47, 9999), (48, 9999)], [(none, [])])
def kl_25 : List jA := [((120, 33), [(3, 0, 2)], [], [], [], true, 0), ((120, 65), [(3, 0, 7)], [], [(44, 6)], [], true, 0)]
def ks_25 : List ((Nat × Nat) × Nat) := [((215, 22), 99)]
/-- chooseFrom1 -/
def kc_26 : jC := (120, 13, [.inl (.ref 44), .inr (0, 1, 1), .inr (0, (-2147483648), 2147483647)], [], [(44, 6), (46, 9999), (47, 9999), (48, 9999)], [(none, [])])
def kl_26 : List jA := [((120, 33), [(3, 0, 1)], [], [], [], true, 0), ((120, 65), [(3, 0, 7)], [], [(44, 6)], [], true, 0)]
def ks_26 : List ((Nat × Nat) × Nat) := [((215, 22), 99)]
/-- chooseFrom0 -/
def kc_27 : jC := (120, 15, [.inl (.ref 44), .inr (0, 0, 0), .inr (0, (-2147483648), 2147483647)], [], [(44, 6), (46, 9999), (47, 9999), (48, 9999)], [(none, [])])
def kl_27 : List jA := [((120, 65), [(3, 0, 7)], [], [(44, 6)], [], true, 0)]
def ks_27 : List ((Nat × Nat) × Nat) := [((215, 22), 99)]
/-- canLook -/
def kc_28 : jC := (88, 2, [.inl (.ref 49), .inr (0, 0, 6), .inr (0, (-2147483648), 2147483647)], [], [], [(some (0, 0, 1), [])])
def kl_28 : List jA := [((88, 16), [(3, (-1), 6)], [], [], [], true, 0)]
def ks_28 : List ((Nat × Nat) × Nat) := [((215, 22), 99)]
/-- whoCanBe -/
def kc_29 : jC := (87, 3, [.inl (.ref 49), .inr (0, 0, 9)], [], [], [(some (0, 0, 127), [])])
def kl_29 : List jA := [((87, 4), [(2, 0, 127), (3, 0, 7)], [], [], [], true, 1)]
def ks_29 : List ((Nat × Nat) × Nat) := [((215, 22), 99)]
/-- bar -/
def kc_30 : jC := (84, 1, [.inl (.ref 49), .inr (0, 0, 9), .inr (0, 0, 9), .inr (0, (-2147483648), 2147483647)], [], [], [(some (0, 0, 1), [])])
def kl_30 : List jA := []
def ks_30 : List ((Nat × Nat) × Nat) := [((215, 22), 99)]
/-- shareOutFrom10 -/
def kc_31 : jC := (85, 0, [.inl (.ref 49), .inr (0, 10, 10), .inr (0, (-2147483648), 2147483647)], [], [(49, 5)], [(none, [])])
def kl_31 : List jA := []
def ks_31 : List ((Nat × Nat) × Nat) := [((215, 22), 99)]
/-- shareOutFrom9 -/
def kc_32 : jC := (85, 2, [.inl (.ref 49), .inr (0, 9, 9), .inr (0, (-2147483648), 2147483647)], [], [(49, 5), (51, 9999)], [(none, [])])
def kl_32 : List jA := [((85, 28), [(3, 0, 10)], [], [(49, 5)], [], true, 0)]
def ks_32 : List ((Nat × Nat) × Nat) := [((215, 22), 99)]
/-- shareOutFrom8 -/
def kc_33 : jC := (85, 4, [.inl (.ref 49), .inr (0, 8, 8), .inr (0, (-2147483648), 2147483647)], [], [(49, 5), (51, 9999)], [(none, [])])
def kl_33 : List jA := [((85, 28), [(3, 0, 10)], [], [(49, 5)], [], true, 0)]
def ks_33 : List ((Nat × Nat) × Nat) := [((215, 22), 99)]
/-- shareOutFrom7 -/
def kc_34 : jC := (85, 6, [.inl (.ref 49), .inr (0, 7, 7), .inr (0, (-2147483648), 2147483647)], [], [(49, 5), (51, 9999)], [(none, [])])
def kl_34 : List jA := [((85, 28), [(3, 0, 10)], [], [(49, 5)], [], true, 0)]
def ks_34 : List ((Nat × Nat) × Nat) := [((215, 22), 99)]
/-- shareOutFrom6 -/
def kc_35 : jC := (85, 8, [.inl (.ref 49), .inr (0, 6, 6), .inr (0, (-2147483648), 2147483647)], [], [(49, 5), (51, 9999)], [(none, [])])
def kl_35 : List jA := [((85, 28), [(3, 0, 10)], [], [(49, 5)], [], true, 0)]
def ks_35 : List ((Nat × Nat) × Nat) := [((215, 22), 99)]
/-- shareOutFrom5 -/
def kc_36 : jC := (85, 10, [.inl (.ref 49), .inr (0, 5, 5), .inr (0, (-2147483648), 2147483647)], [], [(49, 5), (51, 9999)], [(none, [])])
def kl_36 : List jA := [((85, 28), [(3, 0, 10)], [], [(49, 5)], [], true, 0)]
def ks_36 : List ((Nat × Nat) × Nat) := [((215, 22), 99)]
/-- shareOutFrom4 -/
def kc_37 : jC := (85, 12, [.inl (.ref 49), .inr (0, 4, 4), .inr (0, (-2147483648), 2147483647)], [], [(49, 5), (51, 9999)], [(none, [])])
def kl_37 : List jA := [((85, 28), [(3, 0, 10)], [], [(49, 5)], [], true, 0)]
def ks_37 : List ((Nat × Nat) × Nat) := [((215, 22), 99)]
/-- shareOutFrom3 -/
def kc_38 : jC := (85, 14, [.inl (.ref 49), .inr (0, 3, 3), .inr (0, (-2147483648), 2147483647)], [], [(49, 5), (51, 9999)], [(none, [])])
def kl_38 : List jA := [((85, 28), [(3, 0, 10)], [], [(49, 5)], [], true, 0)]
def ks_38 : List ((Nat × Nat) × Nat) := [((215, 22), 99)]
/-- shareOutFrom2 -/
def kc_39 : jC := (85, 16, [.inl (.ref 49), .inr (0, 2, 2), .inr (0, (-2147483648), 2147483647)], [], [(49, 5), (51, 9999)], [(none, [])])
def kl_39 : List jA := [((85, 28), [(3, 0, 10)], [], [(49, 5)], [], true, 0)]
def ks_39 : List ((Nat × Nat) × Nat) := [((215, 22), 99)]
/-- shareOutFrom1 -/
def kc_40 : jC := (85, 18, [.inl (.ref 49), .inr (0, 1, 1), .inr (0, (-2147483648), 2147483647)], [], [(49, 5), (51, 9999)], [(none, [])])
def kl_40 : List jA := [((85, 28), [(3, 0, 10)], [], [(49, 5)], [], true, 0)]
def ks_40 : List ((Nat × Nat) × Nat) := [((215, 22), 99)]
/-- shareOutFrom0 -/
def kc_41 : jC := (85, 20, [.inl (.ref 49), .inr (0, 0, 0), .inr (0, (-2147483648), 2147483647)], [], [(49, 5), (51, 9999)], [(none, [])])
def kl_41 : List jA := [((85, 28), [(3, 0, 10)], [], [(49, 5)], [], true, 0)]
def ks_41 : List ((Nat × Nat) × Nat) := [((215, 22), 99)]
/-- firstTwoIn -/
def kc_42 : jC := (82, 1, [.inl (.ref 49), .inr (0, 0, 29)], [], [], [(some (0, (-2), 66), [])])
def kl_42 : List jA := [((82, 2), [(2, 0, 7)], [], [], [], true, 0), ((82, 36), [(4, 1, 7)], [], [], [], true, 0)]
def ks_42 : List ((Nat × Nat) × Nat) := [((215, 22), 99)]
/-- readNumber -/
def kc_43 : jC := (104, 1, [.inl (.ref 25)], [], [(25, 3), (26, 2), (27, 9999), (28, 9999)], [(some (0, 1, 1), [])])
def kl_43 : List jA := []
def ks_43 : List ((Nat × Nat) × Nat) := [((215, 22), 99)]
/-- readOperand6 -/
def kc_44 : jC := (102, 2, [.inl (.ref 25), .inr (0, 6, 6)], [], [(25, 3), (26, 2), (27, 9999), (28, 9999)], [(some (0, 0, 1), [])])
def kl_44 : List jA := []
def ks_44 : List ((Nat × Nat) × Nat) := [((215, 22), 99)]
/-- readProduct6 -/
def kc_45 : jC := (101, 3, [.inl (.ref 25), .inr (0, 6, 6)], [], [(25, 3), (26, 2), (27, 9999), (28, 9999)], [(some (0, 0, 1), [])])
def kl_45 : List jA := [((101, 12), [(2, 0, 120)], [], [], [], true, 0)]
def ks_45 : List ((Nat × Nat) × Nat) := [((215, 22), 99)]
/-- readSum6 -/
def kc_46 : jC := (100, 4, [.inl (.ref 25), .inr (0, 6, 6)], [], [(25, 3), (26, 2), (27, 9999), (28, 9999)], [(some (0, 0, 1), [])])
def kl_46 : List jA := [((100, 12), [(2, 0, 120)], [], [], [], true, 0)]
def ks_46 : List ((Nat × Nat) × Nat) := [((215, 22), 99)]
/-- readComparison6 -/
def kc_47 : jC := (99, 5, [.inl (.ref 25), .inr (0, 6, 6)], [], [(25, 3), (26, 2), (27, 9999), (28, 9999)], [(some (0, 0, 1), [])])
def kl_47 : List jA := []
def ks_47 : List ((Nat × Nat) × Nat) := [((215, 22), 99)]
/-- readBoth6 -/
def kc_48 : jC := (98, 6, [.inl (.ref 25), .inr (0, 6, 6)], [], [(25, 3), (26, 2), (27, 9999), (28, 9999)], [(some (0, 0, 1), [])])
def kl_48 : List jA := [((98, 12), [(2, 0, 120)], [], [], [], true, 0)]
def ks_48 : List ((Nat × Nat) × Nat) := [((215, 22), 99)]
/-- readEither6 -/
def kc_49 : jC := (97, 7, [.inl (.ref 25), .inr (0, 6, 6)], [], [(25, 3), (26, 2), (27, 9999), (28, 9999)], [(some (0, 0, 1), [])])
def kl_49 : List jA := [((97, 12), [(2, 0, 120)], [], [], [], true, 0)]
def ks_49 : List ((Nat × Nat) × Nat) := [((215, 22), 99)]
/-- readOperand5 -/
def kc_50 : jC := (102, 9, [.inl (.ref 25), .inr (0, 5, 5)], [], [(25, 3), (26, 2), (27, 9999), (28, 9999)], [(some (0, 0, 1), [])])
def kl_50 : List jA := []
def ks_50 : List ((Nat × Nat) × Nat) := [((215, 22), 99)]
/-- readProduct5 -/
def kc_51 : jC := (101, 10, [.inl (.ref 25), .inr (0, 5, 5)], [], [(25, 3), (26, 2), (27, 9999), (28, 9999)], [(some (0, 0, 1), [])])
def kl_51 : List jA := [((101, 12), [(2, 0, 120)], [], [], [], true, 0)]
def ks_51 : List ((Nat × Nat) × Nat) := [((215, 22), 99)]
/-- readSum5 -/
def kc_52 : jC := (100, 11, [.inl (.ref 25), .inr (0, 5, 5)], [], [(25, 3), (26, 2), (27, 9999), (28, 9999)], [(some (0, 0, 1), [])])
def kl_52 : List jA := [((100, 12), [(2, 0, 120)], [], [], [], true, 0)]
def ks_52 : List ((Nat × Nat) × Nat) := [((215, 22), 99)]
/-- readComparison5 -/
def kc_53 : jC := (99, 12, [.inl (.ref 25), .inr (0, 5, 5)], [], [(25, 3), (26, 2), (27, 9999), (28, 9999)], [(some (0, 0, 1), [])])
def kl_53 : List jA := []
def ks_53 : List ((Nat × Nat) × Nat) := [((215, 22), 99)]
/-- readBoth5 -/
def kc_54 : jC := (98, 13, [.inl (.ref 25), .inr (0, 5, 5)], [], [(25, 3), (26, 2), (27, 9999), (28, 9999)], [(some (0, 0, 1), [])])
def kl_54 : List jA := [((98, 12), [(2, 0, 120)], [], [], [], true, 0)]
def ks_54 : List ((Nat × Nat) × Nat) := [((215, 22), 99)]
/-- readEither5 -/
def kc_55 : jC := (97, 14, [.inl (.ref 25), .inr (0, 5, 5)], [], [(25, 3), (26, 2), (27, 9999), (28, 9999)], [(some (0, 0, 1), [])])
def kl_55 : List jA := [((97, 12), [(2, 0, 120)], [], [], [], true, 0)]
def ks_55 : List ((Nat × Nat) × Nat) := [((215, 22), 99)]
/-- readOperand4 -/
def kc_56 : jC := (102, 16, [.inl (.ref 25), .inr (0, 4, 4)], [], [(25, 3), (26, 2), (27, 9999), (28, 9999)], [(some (0, 0, 1), [])])
def kl_56 : List jA := []
def ks_56 : List ((Nat × Nat) × Nat) := [((215, 22), 99)]
/-- readProduct4 -/
def kc_57 : jC := (101, 17, [.inl (.ref 25), .inr (0, 4, 4)], [], [(25, 3), (26, 2), (27, 9999), (28, 9999)], [(some (0, 0, 1), [])])
def kl_57 : List jA := [((101, 12), [(2, 0, 120)], [], [], [], true, 0)]
def ks_57 : List ((Nat × Nat) × Nat) := [((215, 22), 99)]
/-- readSum4 -/
def kc_58 : jC := (100, 18, [.inl (.ref 25), .inr (0, 4, 4)], [], [(25, 3), (26, 2), (27, 9999), (28, 9999)], [(some (0, 0, 1), [])])
def kl_58 : List jA := [((100, 12), [(2, 0, 120)], [], [], [], true, 0)]
def ks_58 : List ((Nat × Nat) × Nat) := [((215, 22), 99)]
/-- readComparison4 -/
def kc_59 : jC := (99, 19, [.inl (.ref 25), .inr (0, 4, 4)], [], [(25, 3), (26, 2), (27, 9999), (28, 9999)], [(some (0, 0, 1), [])])
def kl_59 : List jA := []
def ks_59 : List ((Nat × Nat) × Nat) := [((215, 22), 99)]
/-- readBoth4 -/
def kc_60 : jC := (98, 20, [.inl (.ref 25), .inr (0, 4, 4)], [], [(25, 3), (26, 2), (27, 9999), (28, 9999)], [(some (0, 0, 1), [])])
def kl_60 : List jA := [((98, 12), [(2, 0, 120)], [], [], [], true, 0)]
def ks_60 : List ((Nat × Nat) × Nat) := [((215, 22), 99)]
/-- readEither4 -/
def kc_61 : jC := (97, 21, [.inl (.ref 25), .inr (0, 4, 4)], [], [(25, 3), (26, 2), (27, 9999), (28, 9999)], [(some (0, 0, 1), [])])
def kl_61 : List jA := [((97, 12), [(2, 0, 120)], [], [], [], true, 0)]
def ks_61 : List ((Nat × Nat) × Nat) := [((215, 22), 99)]
/-- readOperand3 -/
def kc_62 : jC := (102, 23, [.inl (.ref 25), .inr (0, 3, 3)], [], [(25, 3), (26, 2), (27, 9999), (28, 9999)], [(some (0, 0, 1), [])])
def kl_62 : List jA := []
def ks_62 : List ((Nat × Nat) × Nat) := [((215, 22), 99)]
/-- readProduct3 -/
def kc_63 : jC := (101, 24, [.inl (.ref 25), .inr (0, 3, 3)], [], [(25, 3), (26, 2), (27, 9999), (28, 9999)], [(some (0, 0, 1), [])])
def kl_63 : List jA := [((101, 12), [(2, 0, 120)], [], [], [], true, 0)]
def ks_63 : List ((Nat × Nat) × Nat) := [((215, 22), 99)]
/-- readSum3 -/
def kc_64 : jC := (100, 25, [.inl (.ref 25), .inr (0, 3, 3)], [], [(25, 3), (26, 2), (27, 9999), (28, 9999)], [(some (0, 0, 1), [])])
def kl_64 : List jA := [((100, 12), [(2, 0, 120)], [], [], [], true, 0)]
def ks_64 : List ((Nat × Nat) × Nat) := [((215, 22), 99)]
/-- readComparison3 -/
def kc_65 : jC := (99, 26, [.inl (.ref 25), .inr (0, 3, 3)], [], [(25, 3), (26, 2), (27, 9999), (28, 9999)], [(some (0, 0, 1), [])])
def kl_65 : List jA := []
def ks_65 : List ((Nat × Nat) × Nat) := [((215, 22), 99)]
/-- readBoth3 -/
def kc_66 : jC := (98, 27, [.inl (.ref 25), .inr (0, 3, 3)], [], [(25, 3), (26, 2), (27, 9999), (28, 9999)], [(some (0, 0, 1), [])])
def kl_66 : List jA := [((98, 12), [(2, 0, 120)], [], [], [], true, 0)]
def ks_66 : List ((Nat × Nat) × Nat) := [((215, 22), 99)]
/-- readEither3 -/
def kc_67 : jC := (97, 28, [.inl (.ref 25), .inr (0, 3, 3)], [], [(25, 3), (26, 2), (27, 9999), (28, 9999)], [(some (0, 0, 1), [])])
def kl_67 : List jA := [((97, 12), [(2, 0, 120)], [], [], [], true, 0)]
def ks_67 : List ((Nat × Nat) × Nat) := [((215, 22), 99)]
/-- readOperand2 -/
def kc_68 : jC := (102, 30, [.inl (.ref 25), .inr (0, 2, 2)], [], [(25, 3), (26, 2), (27, 9999), (28, 9999)], [(some (0, 0, 1), [])])
def kl_68 : List jA := []
def ks_68 : List ((Nat × Nat) × Nat) := [((215, 22), 99)]
/-- readProduct2 -/
def kc_69 : jC := (101, 31, [.inl (.ref 25), .inr (0, 2, 2)], [], [(25, 3), (26, 2), (27, 9999), (28, 9999)], [(some (0, 0, 1), [])])
def kl_69 : List jA := [((101, 12), [(2, 0, 120)], [], [], [], true, 0)]
def ks_69 : List ((Nat × Nat) × Nat) := [((215, 22), 99)]
/-- readSum2 -/
def kc_70 : jC := (100, 32, [.inl (.ref 25), .inr (0, 2, 2)], [], [(25, 3), (26, 2), (27, 9999), (28, 9999)], [(some (0, 0, 1), [])])
def kl_70 : List jA := [((100, 12), [(2, 0, 120)], [], [], [], true, 0)]
def ks_70 : List ((Nat × Nat) × Nat) := [((215, 22), 99)]
/-- readComparison2 -/
def kc_71 : jC := (99, 33, [.inl (.ref 25), .inr (0, 2, 2)], [], [(25, 3), (26, 2), (27, 9999), (28, 9999)], [(some (0, 0, 1), [])])
def kl_71 : List jA := []
def ks_71 : List ((Nat × Nat) × Nat) := [((215, 22), 99)]
/-- readBoth2 -/
def kc_72 : jC := (98, 34, [.inl (.ref 25), .inr (0, 2, 2)], [], [(25, 3), (26, 2), (27, 9999), (28, 9999)], [(some (0, 0, 1), [])])
def kl_72 : List jA := [((98, 12), [(2, 0, 120)], [], [], [], true, 0)]
def ks_72 : List ((Nat × Nat) × Nat) := [((215, 22), 99)]
/-- readEither2 -/
def kc_73 : jC := (97, 35, [.inl (.ref 25), .inr (0, 2, 2)], [], [(25, 3), (26, 2), (27, 9999), (28, 9999)], [(some (0, 0, 1), [])])
def kl_73 : List jA := [((97, 12), [(2, 0, 120)], [], [], [], true, 0)]
def ks_73 : List ((Nat × Nat) × Nat) := [((215, 22), 99)]
/-- readOperand1 -/
def kc_74 : jC := (102, 37, [.inl (.ref 25), .inr (0, 1, 1)], [], [(25, 3), (26, 2), (27, 9999), (28, 9999)], [(some (0, 0, 1), [])])
def kl_74 : List jA := []
def ks_74 : List ((Nat × Nat) × Nat) := [((215, 22), 99)]
/-- readProduct1 -/
def kc_75 : jC := (101, 38, [.inl (.ref 25), .inr (0, 1, 1)], [], [(25, 3), (26, 2), (27, 9999), (28, 9999)], [(some (0, 0, 1), [])])
def kl_75 : List jA := [((101, 12), [(2, 0, 120)], [], [], [], true, 0)]
def ks_75 : List ((Nat × Nat) × Nat) := [((215, 22), 99)]
/-- readSum1 -/
def kc_76 : jC := (100, 39, [.inl (.ref 25), .inr (0, 1, 1)], [], [(25, 3), (26, 2), (27, 9999), (28, 9999)], [(some (0, 0, 1), [])])
def kl_76 : List jA := [((100, 12), [(2, 0, 120)], [], [], [], true, 0)]
def ks_76 : List ((Nat × Nat) × Nat) := [((215, 22), 99)]
/-- readComparison1 -/
def kc_77 : jC := (99, 40, [.inl (.ref 25), .inr (0, 1, 1)], [], [(25, 3), (26, 2), (27, 9999), (28, 9999)], [(some (0, 0, 1), [])])
def kl_77 : List jA := []
def ks_77 : List ((Nat × Nat) × Nat) := [((215, 22), 99)]
/-- readBoth1 -/
def kc_78 : jC := (98, 41, [.inl (.ref 25), .inr (0, 1, 1)], [], [(25, 3), (26, 2), (27, 9999), (28, 9999)], [(some (0, 0, 1), [])])
def kl_78 : List jA := [((98, 12), [(2, 0, 120)], [], [], [], true, 0)]
def ks_78 : List ((Nat × Nat) × Nat) := [((215, 22), 99)]
/-- readEither1 -/
def kc_79 : jC := (97, 42, [.inl (.ref 25), .inr (0, 1, 1)], [], [(25, 3), (26, 2), (27, 9999), (28, 9999)], [(some (0, 0, 1), [])])
def kl_79 : List jA := [((97, 12), [(2, 0, 120)], [], [], [], true, 0)]
def ks_79 : List ((Nat × Nat) × Nat) := [((215, 22), 99)]
/-- readOperand0 -/
def kc_80 : jC := (102, 44, [.inl (.ref 25), .inr (0, 0, 0)], [], [(25, 3), (26, 2), (27, 9999), (28, 9999)], [(some (0, 0, 1), [])])
def kl_80 : List jA := []
def ks_80 : List ((Nat × Nat) × Nat) := [((215, 22), 99)]
/-- readProduct0 -/
def kc_81 : jC := (101, 45, [.inl (.ref 25), .inr (0, 0, 0)], [], [(25, 3), (26, 2), (27, 9999), (28, 9999)], [(some (0, 0, 1), [])])
def kl_81 : List jA := [((101, 12), [(2, 0, 120)], [], [], [], true, 0)]
def ks_81 : List ((Nat × Nat) × Nat) := [((215, 22), 99)]
/-- readSum0 -/
def kc_82 : jC := (100, 46, [.inl (.ref 25), .inr (0, 0, 0)], [], [(25, 3), (26, 2), (27, 9999), (28, 9999)], [(some (0, 0, 1), [])])
def kl_82 : List jA := [((100, 12), [(2, 0, 120)], [], [], [], true, 0)]
def ks_82 : List ((Nat × Nat) × Nat) := [((215, 22), 99)]
/-- readComparison0 -/
def kc_83 : jC := (99, 47, [.inl (.ref 25), .inr (0, 0, 0)], [], [(25, 3), (26, 2), (27, 9999), (28, 9999)], [(some (0, 0, 1), [])])
def kl_83 : List jA := []
def ks_83 : List ((Nat × Nat) × Nat) := [((215, 22), 99)]
/-- readBoth0 -/
def kc_84 : jC := (98, 48, [.inl (.ref 25), .inr (0, 0, 0)], [], [(25, 3), (26, 2), (27, 9999), (28, 9999)], [(some (0, 0, 1), [])])
def kl_84 : List jA := [((98, 12), [(2, 0, 120)], [], [], [], true, 0)]
def ks_84 : List ((Nat × Nat) × Nat) := [((215, 22), 99)]
/-- readEither0 -/
def kc_85 : jC := (97, 49, [.inl (.ref 25), .inr (0, 0, 0)], [], [(25, 3), (26, 2), (27, 9999), (28, 9999)], [(some (0, 0, 1), [])])
def kl_85 : List jA := [((97, 12), [(2, 0, 120)], [], [], [], true, 0)]
def ks_85 : List ((Nat × Nat) × Nat) := [((215, 22), 99)]
/-- readLine -/
def kc_86 : jC := (96, 50, [.inl (.ref 25)], [], [(25, 3), (26, 2), (27, 9999), (28, 9999)], [(some (0, 0, 1), [])])
def kl_86 : List jA := []
def ks_86 : List ((Nat × Nat) × Nat) := [((215, 22), 99)]
/-- lawcopy -/
def kc_87 : jC := (40, 0, [.inl (.ref 20), .inl (.ref 26)], [], [(20, 2), (21, 9999), (22, 9999)], [(none, [])])
def kl_87 : List jA := [((40, 10), [(2, 0, 128)], [], [], [], true, 0)]
def ks_87 : List ((Nat × Nat) × Nat) := [((215, 22), 99)]
/-- scenecopy -/
def kc_88 : jC := (58, 0, [.inl (.ref 7), .inl (.ref 1)], [], [(7, 5), (8, 9999), (9, 9999), (10, 9999), (11, 9999), (12, 9999)], [(none, [])])
def kl_88 : List jA := [((58, 2), [(2, 0, 7)], [], [], [], true, 0), ((58, 28), [(2, 0, 210)], [], [], [], true, 0), ((58, 55), [(2, 0, 10)], [], [], [], true, 0)]
def ks_88 : List ((Nat × Nat) × Nat) := [((215, 22), 99)]
/-- scenecopy2 -/
def kc_89 : jC := (58, 0, [.inl (.ref 1), .inl (.ref 7)], [], [(1, 5), (2, 9999), (3, 9999), (4, 9999), (5, 9999), (6, 9999)], [(none, [])])
def kl_89 : List jA := [((58, 2), [(2, 0, 7)], [], [], [], true, 0), ((58, 28), [(2, 0, 210)], [], [], [], true, 0), ((58, 55), [(2, 0, 10)], [], [], [], true, 0)]
def ks_89 : List ((Nat × Nat) × Nat) := [((215, 22), 99)]
/-- bitsOf -/
def kc_90 : jC := (175, 0, [.inr (0, 0, 1023)], [], [], [(some (0, (-2147483648), 2147483647), [])])
def kl_90 : List jA := [((175, 4), [(1, (-2147483648), 2147483647), (2, 0, 1023)], [], [], [], false, 1)]
def ks_90 : List ((Nat × Nat) × Nat) := [((215, 22), 99)]
/-- byteAt -/
def kc_91 : jC := (197, 0, [.inl (.ref 66)], [], [], [(some (0, 0, 255), [((66, 16), 0, 119, true)]), (some (0, 0, 0), [])])
def kl_91 : List jA := []
def ks_91 : List ((Nat × Nat) × Nat) := [((215, 22), 99)]
/-- one6 -/
def kc_92 : jC := (206, 1, [.inl (.ref 66)], [((66, 19), 6, 6, false)], [(66, 16), (66, 18)], [(some (0, 0, 0), [((66, 18), 0, 120, false), ((66, 19), 6, 6, false), ((66, 16), 0, 120, true)]), (some (0, (-2147483648), 2147483647), [((66, 18), (-1), (-1), false), ((66, 19), 6, 6, false), ((66, 16), 0, 120, true)])])
def kl_92 : List jA := [((206, 176), [(3, (-2147483648), 2147483647), (4, 0, 4)], [((66, 16), 0, 120, true)], [], [], true, 1)]
def ks_92 : List ((Nat × Nat) × Nat) := [((215, 22), 99)]
/-- product6 -/
def kc_93 : jC := (204, 2, [.inl (.ref 66)], [((66, 19), 6, 6, false)], [(66, 16), (66, 18)], [(some (0, (-2147483648), 2147483647), [((66, 18), 0, 120, false), ((66, 19), 6, 6, false), ((66, 16), 0, 120, true)]), (some (0, (-2147483648), 2147483647), [((66, 18), (-1), (-1), false), ((66, 19), 6, 6, false), ((66, 16), 0, 120, true)])])
def kl_93 : List jA := [((204, 35), [(1, (-2147483648), 2147483647), (2, 37, 48)], [((66, 16), 0, 119, true)], [], [], true, 2)]
def ks_93 : List ((Nat × Nat) × Nat) := [((215, 22), 99)]
/-- sums6 -/
def kc_94 : jC := (203, 3, [.inl (.ref 66)], [((66, 19), 6, 6, false)], [(66, 16), (66, 18)], [(some (0, (-2147483648), 2147483647), [((66, 18), 0, 120, false), ((66, 19), 6, 6, false), ((66, 16), 0, 120, true)]), (some (0, (-2147483648), 2147483647), [((66, 18), (-1), (-1), false), ((66, 19), 6, 6, false), ((66, 16), 0, 120, true)])])
def kl_94 : List jA := [((203, 45), [(1, (-2147483648), 2147483647), (2, 0, 1)], [((66, 16), 0, 119, true)], [], [], true, 2)]
def ks_94 : List ((Nat × Nat) × Nat) := [((215, 22), 99)]
/-- compared6 -/
def kc_95 : jC := (202, 4, [.inl (.ref 66)], [((66, 19), 6, 6, false)], [(66, 16), (66, 18)], [(some (0, (-2147483648), 2147483647), [((66, 18), 0, 120, false), ((66, 19), 6, 6, false), ((66, 16), 0, 120, true)]), (some (0, (-2147483648), 2147483647), [((66, 18), (-1), (-1), false), ((66, 19), 6, 6, false), ((66, 16), 0, 120, true)])])
def kl_95 : List jA := []
def ks_95 : List ((Nat × Nat) × Nat) := [((215, 22), 99)]
/-- both6 -/
def kc_96 : jC := (201, 5, [.inl (.ref 66)], [((66, 19), 6, 6, false)], [(66, 16), (66, 18)], [(some (0, (-2147483648), 2147483647), [((66, 18), 0, 120, false), ((66, 19), 6, 6, false), ((66, 16), 0, 120, true)]), (some (0, (-2147483648), 2147483647), [((66, 18), (-1), (-1), false), ((66, 19), 6, 6, false), ((66, 16), 0, 120, true)])])
def kl_96 : List jA := [((201, 14), [(1, (-2147483648), 2147483647)], [((66, 16), 0, 120, true)], [], [], true, 1)]
def ks_96 : List ((Nat × Nat) × Nat) := [((215, 22), 99)]
/-- either6 -/
def kc_97 : jC := (200, 6, [.inl (.ref 66)], [((66, 19), 6, 6, false)], [(66, 16), (66, 18)], [(some (0, (-2147483648), 2147483647), [((66, 18), 0, 120, false), ((66, 19), 6, 6, false), ((66, 16), 0, 120, true)]), (some (0, (-2147483648), 2147483647), [((66, 18), (-1), (-1), false), ((66, 19), 6, 6, false), ((66, 16), 0, 120, true)])])
def kl_97 : List jA := [((200, 14), [(1, (-2147483648), 2147483647)], [((66, 16), 0, 120, true)], [], [], true, 1)]
def ks_97 : List ((Nat × Nat) × Nat) := [((215, 22), 99)]
/-- one5 -/
def kc_98 : jC := (206, 7, [.inl (.ref 66)], [((66, 19), 5, 5, false)], [(66, 16), (66, 18), (66, 19)], [(some (0, 0, 1), [((66, 18), 0, 120, false), ((66, 19), 5, 6, false), ((66, 16), 0, 120, true)]), (some (0, (-2147483648), 2147483647), [((66, 18), (-1), (-1), false), ((66, 19), 5, 5, false), ((66, 16), 0, 120, true)])])
def kl_98 : List jA := [((206, 176), [(3, (-2147483648), 2147483647), (4, 0, 4)], [((66, 16), 0, 120, true)], [], [], true, 1)]
def ks_98 : List ((Nat × Nat) × Nat) := [((215, 22), 99)]
/-- product5 -/
def kc_99 : jC := (204, 8, [.inl (.ref 66)], [((66, 19), 5, 5, false)], [(66, 16), (66, 18), (66, 19)], [(some (0, (-2147483648), 2147483647), [((66, 18), 0, 120, false), ((66, 19), 5, 6, false), ((66, 16), 0, 120, true)]), (some (0, (-2147483648), 2147483647), [((66, 18), (-1), (-1), false), ((66, 19), 5, 5, false), ((66, 16), 0, 120, true)])])
def kl_99 : List jA := [((204, 35), [(1, (-2147483648), 2147483647), (2, 37, 48)], [((66, 16), 0, 119, true)], [], [], true, 2)]
def ks_99 : List ((Nat × Nat) × Nat) := [((215, 22), 99)]
/-- sums5 -/
def kc_100 : jC := (203, 9, [.inl (.ref 66)], [((66, 19), 5, 5, false)], [(66, 16), (66, 18), (66, 19)], [(some (0, (-2147483648), 2147483647), [((66, 18), 0, 120, false), ((66, 19), 5, 6, false), ((66, 16), 0, 120, true)]), (some (0, (-2147483648), 2147483647), [((66, 18), (-1), (-1), false), ((66, 19), 5, 5, false), ((66, 16), 0, 120, true)])])
def kl_100 : List jA := [((203, 45), [(1, (-2147483648), 2147483647), (2, 0, 1)], [((66, 16), 0, 119, true)], [], [], true, 2)]
def ks_100 : List ((Nat × Nat) × Nat) := [((215, 22), 99)]
/-- compared5 -/
def kc_101 : jC := (202, 10, [.inl (.ref 66)], [((66, 19), 5, 5, false)], [(66, 16), (66, 18), (66, 19)], [(some (0, (-2147483648), 2147483647), [((66, 18), 0, 120, false), ((66, 19), 5, 6, false), ((66, 16), 0, 120, true)]), (some (0, (-2147483648), 2147483647), [((66, 18), (-1), (-1), false), ((66, 19), 5, 5, false), ((66, 16), 0, 120, true)])])
def kl_101 : List jA := []
def ks_101 : List ((Nat × Nat) × Nat) := [((215, 22), 99)]
/-- both5 -/
def kc_102 : jC := (201, 11, [.inl (.ref 66)], [((66, 19), 5, 5, false)], [(66, 16), (66, 18), (66, 19)], [(some (0, (-2147483648), 2147483647), [((66, 18), 0, 120, false), ((66, 19), 5, 6, false), ((66, 16), 0, 120, true)]), (some (0, (-2147483648), 2147483647), [((66, 18), (-1), (-1), false), ((66, 19), 5, 5, false), ((66, 16), 0, 120, true)])])
def kl_102 : List jA := [((201, 14), [(1, (-2147483648), 2147483647)], [((66, 16), 0, 120, true)], [], [], true, 1)]
def ks_102 : List ((Nat × Nat) × Nat) := [((215, 22), 99)]
/-- either5 -/
def kc_103 : jC := (200, 12, [.inl (.ref 66)], [((66, 19), 5, 5, false)], [(66, 16), (66, 18), (66, 19)], [(some (0, (-2147483648), 2147483647), [((66, 18), 0, 120, false), ((66, 19), 5, 6, false), ((66, 16), 0, 120, true)]), (some (0, (-2147483648), 2147483647), [((66, 18), (-1), (-1), false), ((66, 19), 5, 5, false), ((66, 16), 0, 120, true)])])
def kl_103 : List jA := [((200, 14), [(1, (-2147483648), 2147483647)], [((66, 16), 0, 120, true)], [], [], true, 1)]
def ks_103 : List ((Nat × Nat) × Nat) := [((215, 22), 99)]
/-- one4 -/
def kc_104 : jC := (206, 13, [.inl (.ref 66)], [((66, 19), 4, 4, false)], [(66, 16), (66, 18), (66, 19)], [(some (0, (-2147483648), 2147483647), [((66, 18), 0, 120, false), ((66, 19), 4, 6, false), ((66, 16), 0, 120, true)]), (some (0, (-2147483648), 2147483647), [((66, 18), (-1), (-1), false), ((66, 19), 4, 4, false), ((66, 16), 0, 120, true)])])
def kl_104 : List jA := [((206, 176), [(3, (-2147483648), 2147483647), (4, 0, 4)], [((66, 16), 0, 120, true)], [], [], true, 1)]
def ks_104 : List ((Nat × Nat) × Nat) := [((215, 22), 99)]
/-- product4 -/
def kc_105 : jC := (204, 14, [.inl (.ref 66)], [((66, 19), 4, 4, false)], [(66, 16), (66, 18), (66, 19)], [(some (0, (-2147483648), 2147483647), [((66, 18), 0, 120, false), ((66, 19), 4, 6, false), ((66, 16), 0, 120, true)]), (some (0, (-2147483648), 2147483647), [((66, 18), (-1), (-1), false), ((66, 19), 4, 4, false), ((66, 16), 0, 120, true)])])
def kl_105 : List jA := [((204, 35), [(1, (-2147483648), 2147483647), (2, 37, 48)], [((66, 16), 0, 119, true)], [], [], true, 2)]
def ks_105 : List ((Nat × Nat) × Nat) := [((215, 22), 99)]
/-- sums4 -/
def kc_106 : jC := (203, 15, [.inl (.ref 66)], [((66, 19), 4, 4, false)], [(66, 16), (66, 18), (66, 19)], [(some (0, (-2147483648), 2147483647), [((66, 18), 0, 120, false), ((66, 19), 4, 6, false), ((66, 16), 0, 120, true)]), (some (0, (-2147483648), 2147483647), [((66, 18), (-1), (-1), false), ((66, 19), 4, 4, false), ((66, 16), 0, 120, true)])])
def kl_106 : List jA := [((203, 45), [(1, (-2147483648), 2147483647), (2, 0, 1)], [((66, 16), 0, 119, true)], [], [], true, 2)]
def ks_106 : List ((Nat × Nat) × Nat) := [((215, 22), 99)]
/-- compared4 -/
def kc_107 : jC := (202, 16, [.inl (.ref 66)], [((66, 19), 4, 4, false)], [(66, 16), (66, 18), (66, 19)], [(some (0, (-2147483648), 2147483647), [((66, 18), 0, 120, false), ((66, 19), 4, 6, false), ((66, 16), 0, 120, true)]), (some (0, (-2147483648), 2147483647), [((66, 18), (-1), (-1), false), ((66, 19), 4, 4, false), ((66, 16), 0, 120, true)])])
def kl_107 : List jA := []
def ks_107 : List ((Nat × Nat) × Nat) := [((215, 22), 99)]
/-- both4 -/
def kc_108 : jC := (201, 17, [.inl (.ref 66)], [((66, 19), 4, 4, false)], [(66, 16), (66, 18), (66, 19)], [(some (0, (-2147483648), 2147483647), [((66, 18), 0, 120, false), ((66, 19), 4, 6, false), ((66, 16), 0, 120, true)]), (some (0, (-2147483648), 2147483647), [((66, 18), (-1), (-1), false), ((66, 19), 4, 4, false), ((66, 16), 0, 120, true)])])
def kl_108 : List jA := [((201, 14), [(1, (-2147483648), 2147483647)], [((66, 16), 0, 120, true)], [], [], true, 1)]
def ks_108 : List ((Nat × Nat) × Nat) := [((215, 22), 99)]
/-- either4 -/
def kc_109 : jC := (200, 18, [.inl (.ref 66)], [((66, 19), 4, 4, false)], [(66, 16), (66, 18), (66, 19)], [(some (0, (-2147483648), 2147483647), [((66, 18), 0, 120, false), ((66, 19), 4, 6, false), ((66, 16), 0, 120, true)]), (some (0, (-2147483648), 2147483647), [((66, 18), (-1), (-1), false), ((66, 19), 4, 4, false), ((66, 16), 0, 120, true)])])
def kl_109 : List jA := [((200, 14), [(1, (-2147483648), 2147483647)], [((66, 16), 0, 120, true)], [], [], true, 1)]
def ks_109 : List ((Nat × Nat) × Nat) := [((215, 22), 99)]
/-- one3 -/
def kc_110 : jC := (206, 19, [.inl (.ref 66)], [((66, 19), 3, 3, false)], [(66, 16), (66, 18), (66, 19)], [(some (0, (-2147483648), 2147483647), [((66, 18), 0, 120, false), ((66, 19), 3, 6, false), ((66, 16), 0, 120, true)]), (some (0, (-2147483648), 2147483647), [((66, 18), (-1), (-1), false), ((66, 19), 3, 3, false), ((66, 16), 0, 120, true)])])
def kl_110 : List jA := [((206, 176), [(3, (-2147483648), 2147483647), (4, 0, 4)], [((66, 16), 0, 120, true)], [], [], true, 1)]
def ks_110 : List ((Nat × Nat) × Nat) := [((215, 22), 99)]
/-- product3 -/
def kc_111 : jC := (204, 20, [.inl (.ref 66)], [((66, 19), 3, 3, false)], [(66, 16), (66, 18), (66, 19)], [(some (0, (-2147483648), 2147483647), [((66, 18), 0, 120, false), ((66, 19), 3, 6, false), ((66, 16), 0, 120, true)]), (some (0, (-2147483648), 2147483647), [((66, 18), (-1), (-1), false), ((66, 19), 3, 3, false), ((66, 16), 0, 120, true)])])
def kl_111 : List jA := [((204, 35), [(1, (-2147483648), 2147483647), (2, 37, 48)], [((66, 16), 0, 119, true)], [], [], true, 2)]
def ks_111 : List ((Nat × Nat) × Nat) := [((215, 22), 99)]
/-- sums3 -/
def kc_112 : jC := (203, 21, [.inl (.ref 66)], [((66, 19), 3, 3, false)], [(66, 16), (66, 18), (66, 19)], [(some (0, (-2147483648), 2147483647), [((66, 18), 0, 120, false), ((66, 19), 3, 6, false), ((66, 16), 0, 120, true)]), (some (0, (-2147483648), 2147483647), [((66, 18), (-1), (-1), false), ((66, 19), 3, 3, false), ((66, 16), 0, 120, true)])])
def kl_112 : List jA := [((203, 45), [(1, (-2147483648), 2147483647), (2, 0, 1)], [((66, 16), 0, 119, true)], [], [], true, 2)]
def ks_112 : List ((Nat × Nat) × Nat) := [((215, 22), 99)]
/-- compared3 -/
def kc_113 : jC := (202, 22, [.inl (.ref 66)], [((66, 19), 3, 3, false)], [(66, 16), (66, 18), (66, 19)], [(some (0, (-2147483648), 2147483647), [((66, 18), 0, 120, false), ((66, 19), 3, 6, false), ((66, 16), 0, 120, true)]), (some (0, (-2147483648), 2147483647), [((66, 18), (-1), (-1), false), ((66, 19), 3, 3, false), ((66, 16), 0, 120, true)])])
def kl_113 : List jA := []
def ks_113 : List ((Nat × Nat) × Nat) := [((215, 22), 99)]
/-- both3 -/
def kc_114 : jC := (201, 23, [.inl (.ref 66)], [((66, 19), 3, 3, false)], [(66, 16), (66, 18), (66, 19)], [(some (0, (-2147483648), 2147483647), [((66, 18), 0, 120, false), ((66, 19), 3, 6, false), ((66, 16), 0, 120, true)]), (some (0, (-2147483648), 2147483647), [((66, 18), (-1), (-1), false), ((66, 19), 3, 3, false), ((66, 16), 0, 120, true)])])
def kl_114 : List jA := [((201, 14), [(1, (-2147483648), 2147483647)], [((66, 16), 0, 120, true)], [], [], true, 1)]
def ks_114 : List ((Nat × Nat) × Nat) := [((215, 22), 99)]
/-- either3 -/
def kc_115 : jC := (200, 24, [.inl (.ref 66)], [((66, 19), 3, 3, false)], [(66, 16), (66, 18), (66, 19)], [(some (0, (-2147483648), 2147483647), [((66, 18), 0, 120, false), ((66, 19), 3, 6, false), ((66, 16), 0, 120, true)]), (some (0, (-2147483648), 2147483647), [((66, 18), (-1), (-1), false), ((66, 19), 3, 3, false), ((66, 16), 0, 120, true)])])
def kl_115 : List jA := [((200, 14), [(1, (-2147483648), 2147483647)], [((66, 16), 0, 120, true)], [], [], true, 1)]
def ks_115 : List ((Nat × Nat) × Nat) := [((215, 22), 99)]
/-- one2 -/
def kc_116 : jC := (206, 25, [.inl (.ref 66)], [((66, 19), 2, 2, false)], [(66, 16), (66, 18), (66, 19)], [(some (0, (-2147483648), 2147483647), [((66, 18), 0, 120, false), ((66, 19), 2, 6, false), ((66, 16), 0, 120, true)]), (some (0, (-2147483648), 2147483647), [((66, 18), (-1), (-1), false), ((66, 19), 2, 2, false), ((66, 16), 0, 120, true)])])
def kl_116 : List jA := [((206, 176), [(3, (-2147483648), 2147483647), (4, 0, 4)], [((66, 16), 0, 120, true)], [], [], true, 1)]
def ks_116 : List ((Nat × Nat) × Nat) := [((215, 22), 99)]
/-- product2 -/
def kc_117 : jC := (204, 26, [.inl (.ref 66)], [((66, 19), 2, 2, false)], [(66, 16), (66, 18), (66, 19)], [(some (0, (-2147483648), 2147483647), [((66, 18), 0, 120, false), ((66, 19), 2, 6, false), ((66, 16), 0, 120, true)]), (some (0, (-2147483648), 2147483647), [((66, 18), (-1), (-1), false), ((66, 19), 2, 2, false), ((66, 16), 0, 120, true)])])
def kl_117 : List jA := [((204, 35), [(1, (-2147483648), 2147483647), (2, 37, 48)], [((66, 16), 0, 119, true)], [], [], true, 2)]
def ks_117 : List ((Nat × Nat) × Nat) := [((215, 22), 99)]
/-- sums2 -/
def kc_118 : jC := (203, 27, [.inl (.ref 66)], [((66, 19), 2, 2, false)], [(66, 16), (66, 18), (66, 19)], [(some (0, (-2147483648), 2147483647), [((66, 18), 0, 120, false), ((66, 19), 2, 6, false), ((66, 16), 0, 120, true)]), (some (0, (-2147483648), 2147483647), [((66, 18), (-1), (-1), false), ((66, 19), 2, 2, false), ((66, 16), 0, 120, true)])])
def kl_118 : List jA := [((203, 45), [(1, (-2147483648), 2147483647), (2, 0, 1)], [((66, 16), 0, 119, true)], [], [], true, 2)]
def ks_118 : List ((Nat × Nat) × Nat) := [((215, 22), 99)]
/-- compared2 -/
def kc_119 : jC := (202, 28, [.inl (.ref 66)], [((66, 19), 2, 2, false)], [(66, 16), (66, 18), (66, 19)], [(some (0, (-2147483648), 2147483647), [((66, 18), 0, 120, false), ((66, 19), 2, 6, false), ((66, 16), 0, 120, true)]), (some (0, (-2147483648), 2147483647), [((66, 18), (-1), (-1), false), ((66, 19), 2, 2, false), ((66, 16), 0, 120, true)])])
def kl_119 : List jA := []
def ks_119 : List ((Nat × Nat) × Nat) := [((215, 22), 99)]
/-- both2 -/
def kc_120 : jC := (201, 29, [.inl (.ref 66)], [((66, 19), 2, 2, false)], [(66, 16), (66, 18), (66, 19)], [(some (0, (-2147483648), 2147483647), [((66, 18), 0, 120, false), ((66, 19), 2, 6, false), ((66, 16), 0, 120, true)]), (some (0, (-2147483648), 2147483647), [((66, 18), (-1), (-1), false), ((66, 19), 2, 2, false), ((66, 16), 0, 120, true)])])
def kl_120 : List jA := [((201, 14), [(1, (-2147483648), 2147483647)], [((66, 16), 0, 120, true)], [], [], true, 1)]
def ks_120 : List ((Nat × Nat) × Nat) := [((215, 22), 99)]
/-- either2 -/
def kc_121 : jC := (200, 30, [.inl (.ref 66)], [((66, 19), 2, 2, false)], [(66, 16), (66, 18), (66, 19)], [(some (0, (-2147483648), 2147483647), [((66, 18), 0, 120, false), ((66, 19), 2, 6, false), ((66, 16), 0, 120, true)]), (some (0, (-2147483648), 2147483647), [((66, 18), (-1), (-1), false), ((66, 19), 2, 2, false), ((66, 16), 0, 120, true)])])
def kl_121 : List jA := [((200, 14), [(1, (-2147483648), 2147483647)], [((66, 16), 0, 120, true)], [], [], true, 1)]
def ks_121 : List ((Nat × Nat) × Nat) := [((215, 22), 99)]
/-- one1 -/
def kc_122 : jC := (206, 31, [.inl (.ref 66)], [((66, 19), 1, 1, false)], [(66, 16), (66, 18), (66, 19)], [(some (0, (-2147483648), 2147483647), [((66, 18), 0, 120, false), ((66, 19), 1, 6, false), ((66, 16), 0, 120, true)]), (some (0, (-2147483648), 2147483647), [((66, 18), (-1), (-1), false), ((66, 19), 1, 1, false), ((66, 16), 0, 120, true)])])
def kl_122 : List jA := [((206, 176), [(3, (-2147483648), 2147483647), (4, 0, 4)], [((66, 16), 0, 120, true)], [], [], true, 1)]
def ks_122 : List ((Nat × Nat) × Nat) := [((215, 22), 99)]
/-- product1 -/
def kc_123 : jC := (204, 32, [.inl (.ref 66)], [((66, 19), 1, 1, false)], [(66, 16), (66, 18), (66, 19)], [(some (0, (-2147483648), 2147483647), [((66, 18), 0, 120, false), ((66, 19), 1, 6, false), ((66, 16), 0, 120, true)]), (some (0, (-2147483648), 2147483647), [((66, 18), (-1), (-1), false), ((66, 19), 1, 1, false), ((66, 16), 0, 120, true)])])
def kl_123 : List jA := [((204, 35), [(1, (-2147483648), 2147483647), (2, 37, 48)], [((66, 16), 0, 119, true)], [], [], true, 2)]
def ks_123 : List ((Nat × Nat) × Nat) := [((215, 22), 99)]
/-- sums1 -/
def kc_124 : jC := (203, 33, [.inl (.ref 66)], [((66, 19), 1, 1, false)], [(66, 16), (66, 18), (66, 19)], [(some (0, (-2147483648), 2147483647), [((66, 18), 0, 120, false), ((66, 19), 1, 6, false), ((66, 16), 0, 120, true)]), (some (0, (-2147483648), 2147483647), [((66, 18), (-1), (-1), false), ((66, 19), 1, 1, false), ((66, 16), 0, 120, true)])])
def kl_124 : List jA := [((203, 45), [(1, (-2147483648), 2147483647), (2, 0, 1)], [((66, 16), 0, 119, true)], [], [], true, 2)]
def ks_124 : List ((Nat × Nat) × Nat) := [((215, 22), 99)]
/-- compared1 -/
def kc_125 : jC := (202, 34, [.inl (.ref 66)], [((66, 19), 1, 1, false)], [(66, 16), (66, 18), (66, 19)], [(some (0, (-2147483648), 2147483647), [((66, 18), 0, 120, false), ((66, 19), 1, 6, false), ((66, 16), 0, 120, true)]), (some (0, (-2147483648), 2147483647), [((66, 18), (-1), (-1), false), ((66, 19), 1, 1, false), ((66, 16), 0, 120, true)])])
def kl_125 : List jA := []
def ks_125 : List ((Nat × Nat) × Nat) := [((215, 22), 99)]
/-- both1 -/
def kc_126 : jC := (201, 35, [.inl (.ref 66)], [((66, 19), 1, 1, false)], [(66, 16), (66, 18), (66, 19)], [(some (0, (-2147483648), 2147483647), [((66, 18), 0, 120, false), ((66, 19), 1, 6, false), ((66, 16), 0, 120, true)]), (some (0, (-2147483648), 2147483647), [((66, 18), (-1), (-1), false), ((66, 19), 1, 1, false), ((66, 16), 0, 120, true)])])
def kl_126 : List jA := [((201, 14), [(1, (-2147483648), 2147483647)], [((66, 16), 0, 120, true)], [], [], true, 1)]
def ks_126 : List ((Nat × Nat) × Nat) := [((215, 22), 99)]
/-- either1 -/
def kc_127 : jC := (200, 36, [.inl (.ref 66)], [((66, 19), 1, 1, false)], [(66, 16), (66, 18), (66, 19)], [(some (0, (-2147483648), 2147483647), [((66, 18), 0, 120, false), ((66, 19), 1, 6, false), ((66, 16), 0, 120, true)]), (some (0, (-2147483648), 2147483647), [((66, 18), (-1), (-1), false), ((66, 19), 1, 1, false), ((66, 16), 0, 120, true)])])
def kl_127 : List jA := [((200, 14), [(1, (-2147483648), 2147483647)], [((66, 16), 0, 120, true)], [], [], true, 1)]
def ks_127 : List ((Nat × Nat) × Nat) := [((215, 22), 99)]
/-- one0 -/
def kc_128 : jC := (206, 37, [.inl (.ref 66)], [((66, 19), 0, 0, false)], [(66, 16), (66, 18), (66, 19)], [(some (0, (-2147483648), 2147483647), [((66, 18), 0, 120, false), ((66, 19), 0, 6, false), ((66, 16), 0, 120, true)]), (some (0, (-2147483648), 2147483647), [((66, 18), (-1), (-1), false), ((66, 19), 0, 0, false), ((66, 16), 0, 120, true)])])
def kl_128 : List jA := [((206, 176), [(3, (-2147483648), 2147483647), (4, 0, 4)], [((66, 16), 0, 120, true)], [], [], true, 1)]
def ks_128 : List ((Nat × Nat) × Nat) := [((215, 22), 99)]
/-- product0 -/
def kc_129 : jC := (204, 38, [.inl (.ref 66)], [((66, 19), 0, 0, false)], [(66, 16), (66, 18), (66, 19)], [(some (0, (-2147483648), 2147483647), [((66, 18), 0, 120, false), ((66, 19), 0, 6, false), ((66, 16), 0, 120, true)]), (some (0, (-2147483648), 2147483647), [((66, 18), (-1), (-1), false), ((66, 19), 0, 0, false), ((66, 16), 0, 120, true)])])
def kl_129 : List jA := [((204, 35), [(1, (-2147483648), 2147483647), (2, 37, 48)], [((66, 16), 0, 119, true)], [], [], true, 2)]
def ks_129 : List ((Nat × Nat) × Nat) := [((215, 22), 99)]
/-- sums0 -/
def kc_130 : jC := (203, 39, [.inl (.ref 66)], [((66, 19), 0, 0, false)], [(66, 16), (66, 18), (66, 19)], [(some (0, (-2147483648), 2147483647), [((66, 18), 0, 120, false), ((66, 19), 0, 6, false), ((66, 16), 0, 120, true)]), (some (0, (-2147483648), 2147483647), [((66, 18), (-1), (-1), false), ((66, 19), 0, 0, false), ((66, 16), 0, 120, true)])])
def kl_130 : List jA := [((203, 45), [(1, (-2147483648), 2147483647), (2, 0, 1)], [((66, 16), 0, 119, true)], [], [], true, 2)]
def ks_130 : List ((Nat × Nat) × Nat) := [((215, 22), 99)]
/-- compared0 -/
def kc_131 : jC := (202, 40, [.inl (.ref 66)], [((66, 19), 0, 0, false)], [(66, 16), (66, 18), (66, 19)], [(some (0, (-2147483648), 2147483647), [((66, 18), 0, 120, false), ((66, 19), 0, 6, false), ((66, 16), 0, 120, true)]), (some (0, (-2147483648), 2147483647), [((66, 18), (-1), (-1), false), ((66, 19), 0, 0, false), ((66, 16), 0, 120, true)])])
def kl_131 : List jA := []
def ks_131 : List ((Nat × Nat) × Nat) := [((215, 22), 99)]
/-- both0 -/
def kc_132 : jC := (201, 41, [.inl (.ref 66)], [((66, 19), 0, 0, false)], [(66, 16), (66, 18), (66, 19)], [(some (0, (-2147483648), 2147483647), [((66, 18), 0, 120, false), ((66, 19), 0, 6, false), ((66, 16), 0, 120, true)]), (some (0, (-2147483648), 2147483647), [((66, 18), (-1), (-1), false), ((66, 19), 0, 0, false), ((66, 16), 0, 120, true)])])
def kl_132 : List jA := [((201, 14), [(1, (-2147483648), 2147483647)], [((66, 16), 0, 120, true)], [], [], true, 1)]
def ks_132 : List ((Nat × Nat) × Nat) := [((215, 22), 99)]
/-- either0 -/
def kc_133 : jC := (200, 42, [.inl (.ref 66)], [((66, 19), 0, 0, false)], [(66, 16), (66, 18), (66, 19)], [(some (0, (-2147483648), 2147483647), [((66, 18), 0, 120, false), ((66, 19), 0, 6, false), ((66, 16), 0, 120, true)]), (some (0, (-2147483648), 2147483647), [((66, 18), (-1), (-1), false), ((66, 19), 0, 0, false), ((66, 16), 0, 120, true)])])
def kl_133 : List jA := [((200, 14), [(1, (-2147483648), 2147483647)], [((66, 16), 0, 120, true)], [], [], true, 1)]
def ks_133 : List ((Nat × Nat) × Nat) := [((215, 22), 99)]
/-- workOut -/
def kc_134 : jC := (207, 43, [.inl (.ref 66), .inr (0, (-1), 0), .inr (0, 0, 120)], [], [(66, 15), (66, 16), (66, 17), (66, 18), (66, 19)], [(some (0, (-2147483648), 2147483647), [])])
def kl_134 : List jA := [((207, 38), [(3, 0, 1), (4, (-2147483648), 2147483647)], [((66, 16), 0, 120, true)], [], [], true, 2)]
def ks_134 : List ((Nat × Nat) × Nat) := [((215, 22), 99)]
/-- areAlike -/
def kc_135 : jC := (209, 44, [.inl (.ref 66), .inr (0, 0, 63), .inr (0, 0, 63), .inr (0, (-2147483648), 2147483647), .inr (0, (-2147483648), 2147483647)], [], [(66, 15), (66, 16), (66, 17), (66, 18), (66, 19), (77, 9999)], [(some (0, 0, 1), [])])
def kl_135 : List jA := []
def ks_135 : List ((Nat × Nat) × Nat) := [((215, 22), 99)]
/-- isAlike -/
def kc_136 : jC := (211, 45, [.inl (.ref 66), .inr (0, 0, 6), .inr (0, 0, 6)], [], [(66, 15), (66, 16), (66, 17), (66, 18), (66, 19), (77, 9999)], [(some (0, 0, 1), [])])
def kl_136 : List jA := []
def ks_136 : List ((Nat × Nat) × Nat) := [((215, 22), 99)]
/-- asksLikes -/
def kc_137 : jC := (213, 46, [.inl (.ref 66)], [], [(66, 15), (66, 16), (66, 17), (66, 18), (66, 19), (77, 9999), (78, 9999)], [(none, [])])
def kl_137 : List jA := [((213, 2), [(1, 0, 7)], [], [], [], true, 0), ((213, 19), [(2, 0, 7)], [], [(78, 9999)], [], true, 0)]
def ks_137 : List ((Nat × Nat) × Nat) := [((215, 22), 99)]
/-- isShut -/
def kc_138 : jC := (214, 1, [.inl (.ref 66), .inr (0, 0, 6), .inr (0, (-2147483648), 2147483647), .inr (0, 0, 29)], [], [], [(some (0, 0, 1), [])])
def kl_138 : List jA := [((214, 3), [(4, 0, 7)], [], [], [], true, 0)]
def ks_138 : List ((Nat × Nat) × Nat) := [((215, 22), 99)]
/-- minutesOfM -/
def kc_139 : jC := (193, 0, [.inl (.ref 66), .inr (0, 0, 6)], [], [], [(some (0, (-2147483648), 2147483647), [])])
def kl_139 : List jA := [((193, 4), [(2, (-2147483648), 2147483647), (3, 0, 4)], [], [], [], true, 1)]
def ks_139 : List ((Nat × Nat) × Nat) := [((215, 22), 99)]
/-- plansOne -/
def kc_140 : jC := (216, 3, [.inl (.ref 66), .inr (0, 0, 6)], [], [(66, 25), (79, 9999), (80, 9999), (81, 9999)], [(none, [])])
def kl_140 : List jA := [((215, 30), [(6, (-2147483648), 2147483647), (7, 0, 30)], [], [], [], true, 1), ((216, 2), [(2, 0, 30)], [], [], [], true, 0), ((216, 37), [(2, 0, 30), (3, 0, 4)], [], [(80, 9999)], [], true, 1), ((216, 84), [(2, 0, 30), (5, 0, 6)], [], [], [], true, 1), ((216, 177), [(3, 0, 30)], [], [], [], true, 0)]
def ks_140 : List ((Nat × Nat) × Nat) := [((215, 22), 99)]
/-- plansNow -/
def kc_141 : jC := (217, 47, [.inl (.ref 66), .inr (0, (-2147483648), 2147483647)], [], [(66, 15), (66, 16), (66, 17), (66, 18), (66, 19), (66, 25), (77, 9999), (78, 9999), (79, 9999), (80, 9999), (81, 9999)], [(none, [])])
def kl_141 : List jA := [((217, 11), [(2, 0, 7)], [], [(66, 25)], [], true, 0)]
def ks_141 : List ((Nat × Nat) × Nat) := [((215, 22), 99)]
/-- ordersOn7 -/
def kc_142 : jC := (223, 0, [.inl (.ref 66), .inr (0, 7, 7), .inr (0, (-2147483648), 2147483647), .inr (0, (-2147483648), 2147483647)], [((66, 6), 7, 7, false)], [(66, 30), (85, 9999)], [(none, [])])
def kl_142 : List jA := [((223, 32), [(4, 0, 7)], [], [], [], true, 0)]
def ks_142 : List ((Nat × Nat) × Nat) := [((215, 22), 99)]
/-- ordersOn6 -/
def kc_143 : jC := (223, 4, [.inl (.ref 66), .inr (0, 6, 6), .inr (0, (-2147483648), 2147483647), .inr (0, (-2147483648), 2147483647)], [((66, 6), 6, 7, false)], [(66, 25), (66, 30), (79, 9999), (80, 9999), (81, 9999), (84, 9999), (85, 9999)], [(none, [])])
def kl_143 : List jA := [((223, 32), [(4, 0, 6)], [], [], [], true, 0), ((223, 65), [(4, 0, 7)], [], [(66, 30)], [], true, 0)]
def ks_143 : List ((Nat × Nat) × Nat) := [((215, 22), 99)]
/-- ordersOn5 -/
def kc_144 : jC := (223, 5, [.inl (.ref 66), .inr (0, 5, 5), .inr (0, (-2147483648), 2147483647), .inr (0, (-2147483648), 2147483647)], [((66, 6), 5, 7, false)], [(66, 25), (66, 30), (79, 9999), (80, 9999), (81, 9999), (84, 9999), (85, 9999)], [(none, [])])
def kl_144 : List jA := [((223, 32), [(4, 0, 5)], [], [], [], true, 0), ((223, 65), [(4, 0, 7)], [], [(66, 30)], [], true, 0)]
def ks_144 : List ((Nat × Nat) × Nat) := [((215, 22), 99)]
/-- ordersOn4 -/
def kc_145 : jC := (223, 6, [.inl (.ref 66), .inr (0, 4, 4), .inr (0, (-2147483648), 2147483647), .inr (0, (-2147483648), 2147483647)], [((66, 6), 4, 7, false)], [(66, 25), (66, 30), (79, 9999), (80, 9999), (81, 9999), (84, 9999), (85, 9999)], [(none, [])])
def kl_145 : List jA := [((223, 32), [(4, 0, 4)], [], [], [], true, 0), ((223, 65), [(4, 0, 7)], [], [(66, 30)], [], true, 0)]
def ks_145 : List ((Nat × Nat) × Nat) := [((215, 22), 99)]
/-- ordersOn3 -/
def kc_146 : jC := (223, 7, [.inl (.ref 66), .inr (0, 3, 3), .inr (0, (-2147483648), 2147483647), .inr (0, (-2147483648), 2147483647)], [((66, 6), 3, 7, false)], [(66, 25), (66, 30), (79, 9999), (80, 9999), (81, 9999), (84, 9999), (85, 9999)], [(none, [])])
def kl_146 : List jA := [((223, 32), [(4, 0, 3)], [], [], [], true, 0), ((223, 65), [(4, 0, 7)], [], [(66, 30)], [], true, 0)]
def ks_146 : List ((Nat × Nat) × Nat) := [((215, 22), 99)]
/-- ordersOn2 -/
def kc_147 : jC := (223, 8, [.inl (.ref 66), .inr (0, 2, 2), .inr (0, (-2147483648), 2147483647), .inr (0, (-2147483648), 2147483647)], [((66, 6), 2, 7, false)], [(66, 25), (66, 30), (79, 9999), (80, 9999), (81, 9999), (84, 9999), (85, 9999)], [(none, [])])
def kl_147 : List jA := [((223, 32), [(4, 0, 2)], [], [], [], true, 0), ((223, 65), [(4, 0, 7)], [], [(66, 30)], [], true, 0)]
def ks_147 : List ((Nat × Nat) × Nat) := [((215, 22), 99)]
/-- ordersOn1 -/
def kc_148 : jC := (223, 9, [.inl (.ref 66), .inr (0, 1, 1), .inr (0, (-2147483648), 2147483647), .inr (0, (-2147483648), 2147483647)], [((66, 6), 1, 7, false)], [(66, 25), (66, 30), (79, 9999), (80, 9999), (81, 9999), (84, 9999), (85, 9999)], [(none, [])])
def kl_148 : List jA := [((223, 32), [(4, 0, 1)], [], [], [], true, 0), ((223, 65), [(4, 0, 7)], [], [(66, 30)], [], true, 0)]
def ks_148 : List ((Nat × Nat) × Nat) := [((215, 22), 99)]
/-- ordersOn0 -/
def kc_149 : jC := (223, 10, [.inl (.ref 66), .inr (0, 0, 0), .inr (0, (-2147483648), 2147483647), .inr (0, (-2147483648), 2147483647)], [((66, 6), 0, 7, false)], [(66, 25), (66, 30), (79, 9999), (80, 9999), (81, 9999), (84, 9999), (85, 9999)], [(none, [])])
def kl_149 : List jA := [((223, 65), [(4, 0, 7)], [], [(66, 30)], [], true, 0)]
def ks_149 : List ((Nat × Nat) × Nat) := [((215, 22), 99)]
/-- asksHats -/
def kc_150 : jC := (229, 45, [.inl (.ref 66)], [], [(66, 15), (66, 16), (66, 17), (66, 18), (66, 19), (77, 9999), (86, 9999)], [(none, [])])
def kl_150 : List jA := [((229, 2), [(1, 0, 7)], [], [], [], true, 0), ((229, 12), [(2, 0, 6)], [], [], [], true, 0), ((229, 19), [(3, 0, 49)], [], [], [], true, 0)]
def ks_150 : List ((Nat × Nat) × Nat) := [((215, 22), 99)]
/-- wearsFrom7 -/
def kc_151 : jC := (230, 0, [.inl (.ref 66), .inr (0, 7, 7), .inr (0, (-2147483648), 2147483647)], [((66, 6), 7, 7, false)], [], [(some (0, 0, 1), [])])
def kl_151 : List jA := []
def ks_151 : List ((Nat × Nat) × Nat) := [((215, 22), 99)]
/-- wearsFrom6 -/
def kc_152 : jC := (230, 2, [.inl (.ref 66), .inr (0, 6, 6), .inr (0, (-2147483648), 2147483647)], [((66, 6), 6, 7, false)], [(87, 9999)], [(some (0, 0, 1), [])])
def kl_152 : List jA := [((230, 20), [(3, 0, 7)], [], [], [], true, 0), ((230, 53), [(4, 0, 1), (5, 0, 6)], [], [], [], true, 1)]
def ks_152 : List ((Nat × Nat) × Nat) := [((215, 22), 99)]
/-- wearsFrom5 -/
def kc_153 : jC := (230, 3, [.inl (.ref 66), .inr (0, 5, 5), .inr (0, (-2147483648), 2147483647)], [((66, 6), 5, 7, false)], [(87, 9999)], [(some (0, 0, 1), [])])
def kl_153 : List jA := [((230, 20), [(3, 0, 7)], [], [], [], true, 0), ((230, 53), [(4, 0, 1), (5, 0, 5)], [], [], [], true, 1)]
def ks_153 : List ((Nat × Nat) × Nat) := [((215, 22), 99)]
/-- wearsFrom4 -/
def kc_154 : jC := (230, 4, [.inl (.ref 66), .inr (0, 4, 4), .inr (0, (-2147483648), 2147483647)], [((66, 6), 4, 7, false)], [(87, 9999)], [(some (0, 0, 1), [])])
def kl_154 : List jA := [((230, 20), [(3, 0, 7)], [], [], [], true, 0), ((230, 53), [(4, 0, 1), (5, 0, 4)], [], [], [], true, 1)]
def ks_154 : List ((Nat × Nat) × Nat) := [((215, 22), 99)]
/-- wearsFrom3 -/
def kc_155 : jC := (230, 5, [.inl (.ref 66), .inr (0, 3, 3), .inr (0, (-2147483648), 2147483647)], [((66, 6), 3, 7, false)], [(87, 9999)], [(some (0, 0, 1), [])])
def kl_155 : List jA := [((230, 20), [(3, 0, 7)], [], [], [], true, 0), ((230, 53), [(4, 0, 1), (5, 0, 3)], [], [], [], true, 1)]
def ks_155 : List ((Nat × Nat) × Nat) := [((215, 22), 99)]
/-- wearsFrom2 -/
def kc_156 : jC := (230, 6, [.inl (.ref 66), .inr (0, 2, 2), .inr (0, (-2147483648), 2147483647)], [((66, 6), 2, 7, false)], [(87, 9999)], [(some (0, 0, 1), [])])
def kl_156 : List jA := [((230, 20), [(3, 0, 7)], [], [], [], true, 0), ((230, 53), [(4, 0, 1), (5, 0, 2)], [], [], [], true, 1)]
def ks_156 : List ((Nat × Nat) × Nat) := [((215, 22), 99)]
/-- wearsFrom1 -/
def kc_157 : jC := (230, 7, [.inl (.ref 66), .inr (0, 1, 1), .inr (0, (-2147483648), 2147483647)], [((66, 6), 1, 7, false)], [(87, 9999)], [(some (0, 0, 1), [])])
def kl_157 : List jA := [((230, 20), [(3, 0, 7)], [], [], [], true, 0), ((230, 53), [(4, 0, 1), (5, 0, 1)], [], [], [], true, 1)]
def ks_157 : List ((Nat × Nat) × Nat) := [((215, 22), 99)]
/-- wearsFrom0 -/
def kc_158 : jC := (230, 8, [.inl (.ref 66), .inr (0, 0, 0), .inr (0, (-2147483648), 2147483647)], [((66, 6), 0, 7, false)], [(87, 9999)], [(some (0, 0, 1), [])])
def kl_158 : List jA := [((230, 20), [(3, 0, 7)], [], [], [], true, 0)]
def ks_158 : List ((Nat × Nat) × Nat) := [((215, 22), 99)]
/-- isKindM -/
def kc_159 : jC := (233, 1, [.inl (.ref 66), .inr (0, (-2147483648), 2147483647)], [], [], [(some (0, 0, 1), [])])
def kl_159 : List jA := [((233, 2), [(2, 0, 7)], [], [], [], true, 0)]
def ks_159 : List ((Nat × Nat) × Nat) := [((215, 22), 99)]
/-- doBar -/
def kc_160 : jC := (240, 1, [.inl (.ref 66), .inr (0, 0, 9), .inr (0, 0, 9), .inr (0, (-2147483648), 2147483647)], [], [], [(some (0, 0, 1), [])])
def kl_160 : List jA := []
def ks_160 : List ((Nat × Nat) × Nat) := [((215, 22), 99)]
/-- isOne -/
def kc_161 : jC := (241, 1, [.inl (.ref 66), .inr (0, (-2147483648), 2147483647)], [], [], [(some (0, 0, 1), [])])
def kl_161 : List jA := [((241, 2), [(2, 0, 10)], [], [], [], true, 0)]
def ks_161 : List ((Nat × Nat) × Nat) := [((215, 22), 99)]
/-- canBe -/
def kc_162 : jC := (243, 2, [.inl (.ref 66), .inr (0, 0, 6), .inr (0, (-2147483648), 2147483647)], [], [], [(some (0, 0, 1), [])])
def kl_162 : List jA := [((243, 13), [(3, 0, 7)], [], [], [], true, 0)]
def ks_162 : List ((Nat × Nat) × Nat) := [((215, 22), 99)]
/-- whoIs -/
def kc_163 : jC := (244, 3, [.inl (.ref 66), .inr (0, 0, 9)], [], [], [(some (0, 0, 127), [])])
def kl_163 : List jA := [((244, 4), [(2, 0, 127), (3, 0, 7)], [], [], [], true, 1)]
def ks_163 : List ((Nat × Nat) × Nat) := [((215, 22), 99)]
/-- X.person -/
def kc_164 : jC := (125, 1, [.inl (.ref 0), .inr (0, (-2147483648), 2147483647), .inr (0, (-2147483648), 2147483647)], [], [(13, 7), (14, 9999), (15, 9999)], [(some (0, (-3), 6), [])])
def kl_164 : List jA := []
def ks_164 : List ((Nat × Nat) × Nat) := [((114, 0), 1), ((115, 0), 1), ((215, 22), 99)]
/-- M.person -/
def kc_165 : jC := (185, 2, [.inl (.ref 66), .inr (0, (-2147483648), 2147483647), .inr (0, (-2147483648), 2147483647)], [], [(66, 6), (67, 9999)], [(some (0, (-3), 6), [])])
def kl_165 : List jA := []
def ks_165 : List ((Nat × Nat) × Nat) := [((215, 22), 99), ((257, 0), 1), ((258, 0), 1), ((259, 0), 1), ((260, 0), 1)]
/-- X.people -/
def kc_166 : jC := (126, 2, [.inl (.ref 0), .inr (0, (-2147483648), 2147483647), .inr (0, (-2147483648), 2147483647), .inr (0, (-2147483648), 2147483647)], [], [(13, 7), (14, 9999), (15, 9999)], [(some (0, (-12), 7), [])])
def kl_166 : List jA := [((127, 22), [(5, 0, 7), (6, 0, 2147483647)], [], [], [], true, 0)]
def ks_166 : List ((Nat × Nat) × Nat) := [((114, 0), 1), ((115, 0), 1), ((215, 22), 99)]
/-- M.people -/
def kc_167 : jC := (186, 2, [.inl (.ref 66), .inr (0, (-2147483648), 2147483647), .inr (0, (-2147483648), 2147483647), .inr (0, (-2147483648), 2147483647)], [], [(66, 6), (67, 9999)], [(some (0, (-12), 7), [])])
def kl_167 : List jA := []
def ks_167 : List ((Nat × Nat) × Nat) := [((215, 22), 99), ((257, 0), 1), ((258, 0), 1), ((259, 0), 1), ((260, 0), 1)]
/-- X.errand -/
def kc_168 : jC := (128, 1, [.inl (.ref 0), .inr (0, (-2147483648), 2147483647), .inr (0, (-2147483648), 2147483647)], [], [(17, 9999), (18, 9999), (19, 9999)], [(some (0, (-3), 4), [])])
def kl_168 : List jA := []
def ks_168 : List ((Nat × Nat) × Nat) := [((114, 0), 1), ((115, 0), 1), ((215, 22), 99)]
/-- M.errand -/
def kc_169 : jC := (187, 2, [.inl (.ref 66), .inr (0, (-2147483648), 2147483647), .inr (0, (-2147483648), 2147483647)], [], [(72, 9999), (73, 9999), (74, 9999)], [(some (0, (-3), 4), [])])
def kl_169 : List jA := []
def ks_169 : List ((Nat × Nat) × Nat) := [((215, 22), 99), ((257, 0), 1), ((258, 0), 1), ((259, 0), 1), ((260, 0), 1)]
/-- X.clear -/
def kc_170 : jC := (129, 1, [.inl (.ref 0), .inr (0, (-2147483648), 2147483647)], [], [(17, 9999)], [(some (0, (-1), 4), [])])
def kl_170 : List jA := []
def ks_170 : List ((Nat × Nat) × Nat) := [((114, 0), 1), ((115, 0), 1), ((215, 22), 99)]
/-- M.clear -/
def kc_171 : jC := (188, 2, [.inl (.ref 66), .inr (0, (-2147483648), 2147483647)], [], [(72, 9999)], [(some (0, (-1), 4), [])])
def kl_171 : List jA := []
def ks_171 : List ((Nat × Nat) × Nat) := [((215, 22), 99), ((257, 0), 1), ((258, 0), 1), ((259, 0), 1), ((260, 0), 1)]
/-- X.hat -/
def kc_172 : jC := (130, 1, [.inl (.ref 0), .inr (0, (-2147483648), 2147483647), .inr (0, (-2147483648), 2147483647)], [], [(2, 9999)], [(some (0, (-2000000000), 5), [])])
def kl_172 : List jA := []
def ks_172 : List ((Nat × Nat) × Nat) := [((114, 0), 1), ((115, 0), 1), ((215, 22), 99)]
/-- M.hat -/
def kc_173 : jC := (189, 2, [.inl (.ref 66), .inr (0, (-2147483648), 2147483647), .inr (0, (-2147483648), 2147483647)], [], [(71, 9999)], [(some (0, (-2000000000), 5), [])])
def kl_173 : List jA := []
def ks_173 : List ((Nat × Nat) × Nat) := [((215, 22), 99), ((257, 0), 1), ((258, 0), 1), ((259, 0), 1), ((260, 0), 1)]
/-- X.mend -/
def kc_174 : jC := (131, 2, [.inl (.ref 0), .inr (0, (-2147483648), 2147483647), .inr (0, (-2147483648), 2147483647), .inr (0, (-2147483648), 2147483647)], [], [(13, 8), (13, 9), (14, 9999), (15, 9999), (16, 9999), (52, 5), (52, 6), (53, 9999), (54, 9999), (55, 9999), (56, 9999)], [(some (0, (-1), 63), [])])
def kl_174 : List jA := [((2, 2), [(1, 1, 40)], [], [], [], true, 0)]
def ks_174 : List ((Nat × Nat) × Nat) := [((114, 0), 1), ((115, 0), 1), ((215, 22), 99)]
/-- M.mend -/
def kc_175 : jC := (190, 2, [.inl (.ref 66), .inr (0, (-2147483648), 2147483647), .inr (0, (-2147483648), 2147483647), .inr (0, (-2147483648), 2147483647)], [], [(66, 4), (66, 5), (67, 9999), (68, 9999), (69, 9999), (70, 9999)], [(some (0, (-1), 63), [])])
def kl_175 : List jA := [((178, 26), [(4, 1, 40)], [], [], [], true, 0)]
def ks_175 : List ((Nat × Nat) × Nat) := [((215, 22), 99), ((257, 0), 1), ((258, 0), 1), ((259, 0), 1), ((260, 0), 1)]
/-- X.of -/
def kc_176 : jC := (133, 3, [.inl (.ref 0), .inr (0, (-2147483648), 2147483647), .inr (0, (-2147483648), 2147483647)], [], [], [(some (0, (-2147483648), 2147483647), [])])
def kl_176 : List jA := [((12, 4), [(2, (-2147483648), 2147483647), (3, 0, 4)], [], [], [], true, 1)]
def ks_176 : List ((Nat × Nat) × Nat) := [((114, 0), 1), ((115, 0), 1), ((215, 22), 99)]
/-- M.of -/
def kc_177 : jC := (195, 3, [.inl (.ref 66), .inr (0, (-2147483648), 2147483647), .inr (0, (-2147483648), 2147483647)], [], [], [(some (0, (-2147483648), 2147483647), [])])
def kl_177 : List jA := []
def ks_177 : List ((Nat × Nat) × Nat) := [((215, 22), 99), ((257, 0), 1), ((258, 0), 1), ((259, 0), 1), ((260, 0), 1)]
/-- X.feed -/
def kc_178 : jC := (136, 1, [.inl (.ref 0), .inr (0, (-2147483648), 2147483647)], [], [(25, 2), (31, 9999)], [(some (0, (-3), 120), [])])
def kl_178 : List jA := []
def ks_178 : List ((Nat × Nat) × Nat) := [((114, 0), 1), ((115, 0), 1), ((215, 22), 99)]
/-- M.feed -/
def kc_179 : jC := (196, 1, [.inl (.ref 66), .inr (0, (-2147483648), 2147483647)], [], [(66, 12), (75, 9999)], [(some (0, (-3), 120), [])])
def kl_179 : List jA := []
def ks_179 : List ((Nat × Nat) × Nat) := [((215, 22), 99), ((257, 0), 1), ((258, 0), 1), ((259, 0), 1), ((260, 0), 1)]
/-- X.law -/
def kc_180 : jC := (137, 52, [.inl (.ref 0)], [], [(20, 2), (21, 9999), (22, 9999), (25, 2), (25, 3), (26, 2), (27, 9999), (28, 9999)], [(some (0, (-220), 1), [])])
def kl_180 : List jA := [((93, 17), [(1, 0, 1), (2, 0, 121)], [], [(25, 3), (26, 2)], [], true, 1)]
def ks_180 : List ((Nat × Nat) × Nat) := [((114, 0), 1), ((115, 0), 1), ((215, 22), 99)]
/-- M.law -/
def kc_181 : jC := (208, 44, [.inl (.ref 66)], [], [(66, 12), (66, 14), (66, 15), (66, 16), (66, 17), (66, 18), (66, 19), (76, 9999)], [(some (0, (-220), 1), [])])
def kl_181 : List jA := [((208, 37), [(3, 0, 120)], [], [], [], true, 0)]
def ks_181 : List ((Nat × Nat) × Nat) := [((215, 22), 99), ((257, 0), 1), ((258, 0), 1), ((259, 0), 1), ((260, 0), 1)]
/-- X.alike -/
def kc_182 : jC := (138, 4, [.inl (.ref 0), .inr (0, (-2147483648), 2147483647)], [], [(20, 4), (23, 9999), (24, 9999)], [(some (0, (-1), 1), [])])
def kl_182 : List jA := []
def ks_182 : List ((Nat × Nat) × Nat) := [((114, 0), 1), ((115, 0), 1), ((215, 22), 99)]
/-- M.alike -/
def kc_183 : jC := (212, 46, [.inl (.ref 66), .inr (0, (-2147483648), 2147483647)], [], [(66, 15), (66, 16), (66, 17), (66, 18), (66, 19), (77, 9999)], [(some (0, (-1), 1), [])])
def kl_183 : List jA := []
def ks_183 : List ((Nat × Nat) × Nat) := [((215, 22), 99), ((257, 0), 1), ((258, 0), 1), ((259, 0), 1), ((260, 0), 1)]
/-- X.plan -/
def kc_184 : jC := (139, 6, [.inl (.ref 0)], [], [(20, 4), (23, 9999), (24, 9999), (33, 9999), (34, 12), (35, 9999), (36, 9999), (37, 9999), (38, 9999), (39, 9999), (42, 9999), (43, 9999)], [(some (0, (-2147483648), 2147483647), [])])
def kl_184 : List jA := [((30, 4), [(1, (-2147483648), 2147483647), (2, 0, 7)], [], [], [], true, 1), ((32, 2), [(1, 0, 7)], [], [], [], true, 0)]
def ks_184 : List ((Nat × Nat) × Nat) := [((114, 0), 1), ((115, 0), 1), ((215, 22), 99)]
/-- M.plan -/
def kc_185 : jC := (220, 48, [.inl (.ref 66)], [], [(66, 15), (66, 16), (66, 17), (66, 18), (66, 19), (66, 25), (77, 9999), (78, 9999), (79, 9999), (80, 9999), (81, 9999), (82, 9999), (83, 9999)], [(some (0, (-2147483648), 2147483647), [])])
def kl_185 : List jA := [((219, 4), [(1, (-2147483648), 2147483647), (2, 0, 7)], [], [], [], true, 1), ((220, 7), [(1, 0, 7)], [], [], [], true, 0), ((220, 33), [(2, 0, 30)], [], [(82, 9999), (83, 9999)], [], true, 0)]
def ks_185 : List ((Nat × Nat) × Nat) := [((215, 22), 99), ((257, 0), 1), ((258, 0), 1), ((259, 0), 1), ((260, 0), 1)]
/-- X.where -/
def kc_186 : jC := (140, 6, [.inl (.ref 0), .inr (0, (-2147483648), 2147483647), .inr (0, (-2147483648), 2147483647)], [], [(20, 4), (23, 9999), (24, 9999), (33, 9999), (35, 9999), (36, 9999), (37, 9999), (38, 9999), (39, 9999)], [(some (0, (-2000000000), 4), [])])
def kl_186 : List jA := [((31, 2), [(3, 0, 5)], [], [], [], true, 0)]
def ks_186 : List ((Nat × Nat) × Nat) := [((114, 0), 1), ((115, 0), 1), ((215, 22), 99)]
/-- M.where -/
def kc_187 : jC := (221, 48, [.inl (.ref 66), .inr (0, (-2147483648), 2147483647), .inr (0, (-2147483648), 2147483647)], [], [(66, 15), (66, 16), (66, 17), (66, 18), (66, 19), (66, 25), (77, 9999), (78, 9999), (79, 9999), (80, 9999), (81, 9999)], [(some (0, (-2147483648), 2147483647), [])])
def kl_187 : List jA := []
def ks_187 : List ((Nat × Nat) × Nat) := [((215, 22), 99), ((257, 0), 1), ((258, 0), 1), ((259, 0), 1), ((260, 0), 1)]
/-- X.waited -/
def kc_188 : jC := (141, 6, [.inl (.ref 0), .inr (0, (-2147483648), 2147483647), .inr (0, (-2147483648), 2147483647)], [], [(20, 4), (23, 9999), (24, 9999), (33, 9999), (35, 9999), (36, 9999), (37, 9999), (38, 9999), (39, 9999)], [(some (0, (-2147483648), 2147483647), [])])
def kl_188 : List jA := []
def ks_188 : List ((Nat × Nat) × Nat) := [((114, 0), 1), ((115, 0), 1), ((215, 22), 99)]
/-- M.waited -/
def kc_189 : jC := (222, 48, [.inl (.ref 66), .inr (0, (-2147483648), 2147483647), .inr (0, (-2147483648), 2147483647)], [], [(66, 15), (66, 16), (66, 17), (66, 18), (66, 19), (66, 25), (77, 9999), (78, 9999), (79, 9999), (80, 9999), (81, 9999)], [(some (0, (-2147483648), 2147483647), [])])
def kl_189 : List jA := []
def ks_189 : List ((Nat × Nat) × Nat) := [((215, 22), 99), ((257, 0), 1), ((258, 0), 1), ((259, 0), 1), ((260, 0), 1)]
/-- X.best -/
def kc_190 : jC := (142, 17, [.inl (.ref 0), .inr (0, (-2147483648), 2147483647)], [], [(20, 4), (23, 9999), (24, 9999), (33, 9999), (34, 9), (35, 9999), (36, 9999), (37, 9999), (38, 9999), (39, 9999), (40, 9999), (41, 9999)], [(some (0, (-2147483648), 2147483647), [])])
def kl_190 : List jA := []
def ks_190 : List ((Nat × Nat) × Nat) := [((114, 0), 1), ((115, 0), 1), ((215, 22), 99)]
/-- M.best -/
def kc_191 : jC := (224, 47, [.inl (.ref 66), .inr (0, (-2147483648), 2147483647)], [], [(66, 15), (66, 16), (66, 17), (66, 18), (66, 19), (66, 25), (66, 30), (77, 9999), (78, 9999), (79, 9999), (80, 9999), (81, 9999), (84, 9999), (85, 9999)], [(some (0, (-2147483648), 2147483647), [])])
def kl_191 : List jA := []
def ks_191 : List ((Nat × Nat) × Nat) := [((215, 22), 99), ((257, 0), 1), ((258, 0), 1), ((259, 0), 1), ((260, 0), 1)]
/-- X.bars -/
def kc_192 : jC := (143, 6, [.inl (.ref 0), .inr (0, (-2147483648), 2147483647)], [], [(20, 4), (23, 9999), (24, 9999), (33, 9999), (35, 9999), (36, 9999), (37, 9999), (38, 9999), (39, 9999)], [(some (0, (-2), 5), [])])
def kl_192 : List jA := [((33, 29), [(4, 0, 6)], [], [(38, 9999), (39, 9999)], [], true, 0)]
def ks_192 : List ((Nat × Nat) × Nat) := [((114, 0), 1), ((115, 0), 1), ((215, 22), 99)]
/-- M.bars -/
def kc_193 : jC := (225, 48, [.inl (.ref 66), .inr (0, (-2147483648), 2147483647)], [], [(66, 15), (66, 16), (66, 17), (66, 18), (66, 19), (66, 25), (77, 9999), (78, 9999), (79, 9999), (80, 9999), (81, 9999)], [(some (0, (-2), 5), [])])
def kl_193 : List jA := [((225, 32), [(4, 0, 6)], [], [(80, 9999), (81, 9999)], [], true, 0)]
def ks_193 : List ((Nat × Nat) × Nat) := [((215, 22), 99), ((257, 0), 1), ((258, 0), 1), ((259, 0), 1), ((260, 0), 1)]
/-- X.led -/
def kc_194 : jC := (144, 1, [.inl (.ref 0), .inr (0, (-2147483648), 2147483647), .inr (0, (-2147483648), 2147483647)], [], [], [(some (0, (-2147483648), 2147483647), [])])
def kl_194 : List jA := []
def ks_194 : List ((Nat × Nat) × Nat) := [((114, 0), 1), ((115, 0), 1), ((215, 22), 99)]
/-- M.led -/
def kc_195 : jC := (226, 2, [.inl (.ref 66), .inr (0, (-2147483648), 2147483647), .inr (0, (-2147483648), 2147483647)], [], [], [(some (0, (-2147483648), 2147483647), [])])
def kl_195 : List jA := []
def ks_195 : List ((Nat × Nat) × Nat) := [((215, 22), 99), ((257, 0), 1), ((258, 0), 1), ((259, 0), 1), ((260, 0), 1)]
/-- X.hats -/
def kc_196 : jC := (145, 17, [.inl (.ref 0), .inr (0, (-2147483648), 2147483647)], [], [(20, 4), (23, 9999), (24, 9999), (44, 6), (45, 9999), (46, 9999), (47, 9999), (48, 9999)], [(some (0, (-2147483648), 2147483647), [])])
def kl_196 : List jA := [((118, 2), [(1, 0, 7)], [], [], [], true, 0), ((118, 34), [(2, 0, 7)], [], [], [], true, 0)]
def ks_196 : List ((Nat × Nat) × Nat) := [((114, 0), 1), ((115, 0), 1), ((215, 22), 99)]
/-- M.hats -/
def kc_197 : jC := (231, 46, [.inl (.ref 66), .inr (0, (-2147483648), 2147483647)], [], [(66, 15), (66, 16), (66, 17), (66, 18), (66, 19), (77, 9999), (86, 9999), (87, 9999)], [(some (0, (-2000000000), 7), [])])
def kl_197 : List jA := [((231, 22), [(2, 0, 8)], [], [], [], true, 0)]
def ks_197 : List ((Nat × Nat) × Nat) := [((215, 22), 99), ((257, 0), 1), ((258, 0), 1), ((259, 0), 1), ((260, 0), 1)]
/-- X.needs -/
def kc_198 : jC := (146, 5, [.inl (.ref 0)], [], [(20, 4), (23, 9999), (24, 9999)], [(some (0, (-2147483648), 2147483647), [])])
def kl_198 : List jA := []
def ks_198 : List ((Nat × Nat) × Nat) := [((114, 0), 1), ((115, 0), 1), ((215, 22), 99)]
/-- M.needs -/
def kc_199 : jC := (232, 47, [.inl (.ref 66)], [], [(66, 15), (66, 16), (66, 17), (66, 18), (66, 19), (77, 9999), (78, 9999)], [(some (0, (-1073741824), 1073741823), [])])
def kl_199 : List jA := [((232, 8), [(1, (-2147483648), 2147483647), (2, 0, 7)], [], [], [], true, 1)]
def ks_199 : List ((Nat × Nat) × Nat) := [((215, 22), 99), ((257, 0), 1), ((258, 0), 1), ((259, 0), 1), ((260, 0), 1)]
/-- X.kinds -/
def kc_200 : jC := (147, 6, [.inl (.ref 0), .inr (0, (-2147483648), 2147483647)], [], [(20, 4), (23, 9999), (24, 9999), (33, 9999)], [(some (0, (-1), 127), [])])
def kl_200 : List jA := [((54, 8), [(1, 0, 127), (2, 1, 128)], [], [], [], true, 1)]
def ks_200 : List ((Nat × Nat) × Nat) := [((114, 0), 1), ((115, 0), 1), ((215, 22), 99)]
/-- M.kinds -/
def kc_201 : jC := (234, 47, [.inl (.ref 66), .inr (0, (-2147483648), 2147483647)], [], [(66, 15), (66, 16), (66, 17), (66, 18), (66, 19), (77, 9999), (78, 9999)], [(some (0, (-2147483648), 2147483647), [])])
def kl_201 : List jA := [((234, 20), [(2, 0, 127), (3, 1, 128)], [], [], [], true, 1)]
def ks_201 : List ((Nat × Nat) × Nat) := [((215, 22), 99), ((257, 0), 1), ((258, 0), 1), ((259, 0), 1), ((260, 0), 1)]
/-- X.pass -/
def kc_202 : jC := (148, 5, [.inl (.ref 0), .inr (0, (-2147483648), 2147483647)], [], [(20, 4), (23, 9999), (24, 9999)], [(some (0, (-2000000000), 5), [])])
def kl_202 : List jA := [((56, 2), [(3, (-1), 6)], [], [], [], true, 0)]
def ks_202 : List ((Nat × Nat) × Nat) := [((114, 0), 1), ((115, 0), 1), ((215, 22), 99)]
/-- M.pass -/
def kc_203 : jC := (235, 45, [.inl (.ref 66), .inr (0, (-2147483648), 2147483647)], [], [(66, 15), (66, 16), (66, 17), (66, 18), (66, 19), (77, 9999)], [(some (0, (-2000000000), 5), [])])
def kl_203 : List jA := [((235, 24), [(4, (-1), 6)], [], [], [], true, 0)]
def ks_203 : List ((Nat × Nat) × Nat) := [((215, 22), 99), ((257, 0), 1), ((258, 0), 1), ((259, 0), 1), ((260, 0), 1)]
/-- X.go -/
def kc_204 : jC := (149, 1, [.inl (.ref 0), .inr (0, (-2147483648), 2147483647), .inr (0, (-2147483648), 2147483647), .inr (0, (-2147483648), 2147483647)], [], [(3, 9999)], [(some (0, (-98), 30), [])])
def kl_204 : List jA := [((61, 3), [(5, 0, 119)], [], [], [], true, 0)]
def ks_204 : List ((Nat × Nat) × Nat) := [((114, 0), 1), ((115, 0), 1), ((215, 22), 99)]
/-- M.go -/
def kc_205 : jC := (236, 2, [.inl (.ref 66), .inr (0, (-2147483648), 2147483647), .inr (0, (-2147483648), 2147483647), .inr (0, (-2147483648), 2147483647)], [], [(88, 9999)], [(some (0, (-98), 30), [])])
def kl_205 : List jA := [((236, 54), [(4, 0, 119)], [], [], [], true, 0)]
def ks_205 : List ((Nat × Nat) × Nat) := [((215, 22), 99), ((257, 0), 1), ((258, 0), 1), ((259, 0), 1), ((260, 0), 1)]
/-- X.judge -/
def kc_206 : jC := (150, 6, [.inl (.ref 0), .inr (0, (-2147483648), 2147483647)], [], [(20, 4), (23, 9999), (24, 9999), (33, 9999)], [(some (0, (-9), 29), [])])
def kl_206 : List jA := [((81, 9), [(1, 0, 30)], [], [], [], true, 0)]
def ks_206 : List ((Nat × Nat) × Nat) := [((114, 0), 1), ((115, 0), 1), ((215, 22), 99)]
/-- M.judge -/
def kc_207 : jC := (237, 47, [.inl (.ref 66), .inr (0, (-2147483648), 2147483647)], [], [(66, 15), (66, 16), (66, 17), (66, 18), (66, 19), (77, 9999), (78, 9999)], [(some (0, (-2), 29), [])])
def kl_207 : List jA := [((237, 20), [(2, 0, 30)], [], [], [], true, 0), ((237, 28), [(3, 0, 7)], [], [], [], true, 0), ((237, 41), [(4, 1, 7)], [], [], [], true, 0)]
def ks_207 : List ((Nat × Nat) × Nat) := [((215, 22), 99), ((257, 0), 1), ((258, 0), 1), ((259, 0), 1), ((260, 0), 1)]
/-- X.watch -/
def kc_208 : jC := (151, 2, [.inl (.ref 0), .inr (0, (-2147483648), 2147483647), .inr (0, (-2147483648), 2147483647)], [], [], [(some (0, (-2147483648), 2147483647), [])])
def kl_208 : List jA := [((63, 2), [(3, 0, 30)], [], [], [], true, 0), ((64, 5), [(3, (-2147483648), 2147483647), (4, 0, 30)], [], [], [], true, 1)]
def ks_208 : List ((Nat × Nat) × Nat) := [((114, 0), 1), ((115, 0), 1), ((215, 22), 99)]
/-- M.watch -/
def kc_209 : jC := (238, 3, [.inl (.ref 66), .inr (0, (-2147483648), 2147483647), .inr (0, (-2147483648), 2147483647)], [], [], [(some (0, (-2147483648), 2147483647), [])])
def kl_209 : List jA := [((238, 30), [(3, (-2), 360), (4, (-2147483648), 2147483647), (5, (-1), 29)], [], [], [], false, 2)]
def ks_209 : List ((Nat × Nat) × Nat) := [((215, 22), 99), ((257, 0), 1), ((258, 0), 1), ((259, 0), 1), ((260, 0), 1)]
/-- X.sight -/
def kc_210 : jC := (152, 1, [.inl (.ref 0), .inr (0, (-2147483648), 2147483647), .inr (0, (-2147483648), 2147483647)], [], [(1, 5), (4, 9999), (5, 9999), (6, 9999)], [(some (0, (-3), 9), [])])
def kl_210 : List jA := []
def ks_210 : List ((Nat × Nat) × Nat) := [((114, 0), 1), ((115, 0), 1), ((215, 22), 99)]
/-- M.sight -/
def kc_211 : jC := (239, 2, [.inl (.ref 66), .inr (0, (-2147483648), 2147483647), .inr (0, (-2147483648), 2147483647)], [], [(66, 34), (89, 9999)], [(some (0, (-3), 9), [])])
def kl_211 : List jA := []
def ks_211 : List ((Nat × Nat) × Nat) := [((215, 22), 99), ((257, 0), 1), ((258, 0), 1), ((259, 0), 1), ((260, 0), 1)]
/-- X.atLeast -/
def kc_212 : jC := (153, 22, [.inl (.ref 0), .inr (0, (-2147483648), 2147483647)], [], [(49, 5), (50, 9999), (51, 9999)], [(some (0, (-2147483648), 2147483647), [])])
def kl_212 : List jA := [((83, 2), [(2, 0, 10)], [], [], [], true, 0), ((83, 29), [(3, 0, 10)], [], [(50, 9999)], [], true, 0)]
def ks_212 : List ((Nat × Nat) × Nat) := [((114, 0), 1), ((115, 0), 1), ((215, 22), 99)]
/-- M.atLeast -/
def kc_213 : jC := (242, 2, [.inl (.ref 66), .inr (0, (-2147483648), 2147483647)], [], [(90, 9999), (91, 9999)], [(some (0, (-2147483648), 2147483647), [])])
def kl_213 : List jA := [((242, 16), [(2, 0, 10)], [], [], [], true, 0), ((242, 33), [(3, 0, 10)], [], [(90, 9999)], [], true, 0), ((242, 93), [(2, 1, 1024)], [], [(91, 9999)], [], true, 0), ((242, 113), [(3, 0, 1023)], [], [(91, 9999)], [], false, 0)]
def ks_213 : List ((Nat × Nat) × Nat) := [((215, 22), 99), ((257, 0), 1), ((258, 0), 1), ((259, 0), 1), ((260, 0), 1)]
/-- X.who -/
def kc_214 : jC := (154, 4, [.inl (.ref 0), .inr (0, (-2147483648), 2147483647)], [], [], [(some (0, (-1), 127), [])])
def kl_214 : List jA := []
def ks_214 : List ((Nat × Nat) × Nat) := [((114, 0), 1), ((115, 0), 1), ((215, 22), 99)]
/-- M.who -/
def kc_215 : jC := (245, 4, [.inl (.ref 66), .inr (0, (-2147483648), 2147483647)], [], [], [(some (0, (-1), 127), [])])
def kl_215 : List jA := []
def ks_215 : List ((Nat × Nat) × Nat) := [((215, 22), 99), ((257, 0), 1), ((258, 0), 1), ((259, 0), 1), ((260, 0), 1)]
/-- X.gone -/
def kc_216 : jC := (155, 6, [.inl (.ref 0), .inr (0, (-2147483648), 2147483647), .inr (0, (-2147483648), 2147483647)], [], [(20, 4), (23, 9999), (24, 9999), (33, 9999)], [(some (0, (-1), 127), [])])
def kl_216 : List jA := [((89, 4), [(2, 0, 127), (3, 0, 10)], [], [], [], true, 1), ((90, 11), [(2, 0, 127), (3, 0, 7)], [], [], [], true, 1)]
def ks_216 : List ((Nat × Nat) × Nat) := [((114, 0), 1), ((115, 0), 1), ((215, 22), 99)]
/-- M.gone -/
def kc_217 : jC := (246, 47, [.inl (.ref 66), .inr (0, (-2147483648), 2147483647), .inr (0, (-2147483648), 2147483647)], [], [(66, 15), (66, 16), (66, 17), (66, 18), (66, 19), (77, 9999), (78, 9999)], [(some (0, (-1), 127), [])])
def kl_217 : List jA := [((246, 36), [(3, 0, 127), (4, 0, 10)], [], [], [], true, 1), ((246, 95), [(4, 0, 127), (5, 0, 7)], [], [], [], true, 1)]
def ks_217 : List ((Nat × Nat) × Nat) := [((215, 22), 99), ((257, 0), 1), ((258, 0), 1), ((259, 0), 1), ((260, 0), 1)]
/-- X.months -/
def kc_218 : jC := (156, 5, [.inl (.ref 0), .inr (0, (-2147483648), 2147483647)], [], [(20, 4), (23, 9999), (24, 9999)], [(some (0, (-2147483648), 2147483647), [])])
def kl_218 : List jA := []
def ks_218 : List ((Nat × Nat) × Nat) := [((114, 0), 1), ((115, 0), 1), ((215, 22), 99)]
/-- M.months -/
def kc_219 : jC := (247, 45, [.inl (.ref 66), .inr (0, (-2147483648), 2147483647)], [], [(66, 15), (66, 16), (66, 17), (66, 18), (66, 19), (77, 9999)], [(some (0, (-2147483648), 2147483647), [])])
def kl_219 : List jA := [((247, 32), [(3, (-2147483648), 2147483647), (4, 0, 7)], [], [], [], true, 1), ((247, 44), [(3, (-2147483648), 2147483647), (5, 0, 6)], [], [], [], true, 1)]
def ks_219 : List ((Nat × Nat) × Nat) := [((215, 22), 99), ((257, 0), 1), ((258, 0), 1), ((259, 0), 1), ((260, 0), 1)]
/-- X.turn -/
def kc_220 : jC := (157, 1, [.inl (.ref 0)], [], [(13, 9), (14, 9999)], [(some (0, 0, 11), [])])
def kl_220 : List jA := [((22, 2), [(1, 0, 7)], [], [], [], true, 0)]
def ks_220 : List ((Nat × Nat) × Nat) := [((114, 0), 1), ((115, 0), 1), ((215, 22), 99)]
/-- M.turn -/
def kc_221 : jC := (248, 0, [.inl (.ref 66)], [], [(67, 9999)], [(some (0, 0, 11), [])])
def kl_221 : List jA := [((248, 2), [(1, 0, 7)], [], [], [], true, 0)]
def ks_221 : List ((Nat × Nat) × Nat) := [((215, 22), 99), ((257, 0), 1), ((258, 0), 1), ((259, 0), 1), ((260, 0), 1)]
/-- X.image -/
def kc_222 : jC := (158, 1, [.inl (.ref 0)], [], [(0, 2), (0, 3), (7, 5), (8, 9999), (9, 9999), (10, 9999), (11, 9999), (12, 9999)], [(some (0, 0, 7), [])])
def kl_222 : List jA := []
def ks_222 : List ((Nat × Nat) × Nat) := [((114, 0), 1), ((115, 0), 1), ((215, 22), 99)]
/-- M.image -/
def kc_223 : jC := (249, 0, [.inl (.ref 66)], [], [(66, 38), (66, 39), (66, 40), (92, 9999), (93, 9999), (94, 9999)], [(some (0, 0, 7), [])])
def kl_223 : List jA := [((249, 23), [(1, 0, 7)], [], [], [], true, 0), ((249, 61), [(1, 0, 210)], [], [], [], true, 0), ((249, 88), [(1, 0, 30)], [], [], [], true, 0)]
def ks_223 : List ((Nat × Nat) × Nat) := [((215, 22), 99), ((257, 0), 1), ((258, 0), 1), ((259, 0), 1), ((260, 0), 1)]
/-- X.back -/
def kc_224 : jC := (159, 1, [.inl (.ref 0)], [], [(1, 5), (2, 9999), (3, 9999), (4, 9999), (5, 9999), (6, 9999)], [(some (0, (-5), 7), [])])
def kl_224 : List jA := []
def ks_224 : List ((Nat × Nat) × Nat) := [((114, 0), 1), ((115, 0), 1), ((215, 22), 99)]
/-- M.back -/
def kc_225 : jC := (250, 0, [.inl (.ref 66)], [], [(66, 34), (71, 9999), (88, 9999), (89, 9999)], [(some (0, (-5), 7), [])])
def kl_225 : List jA := [((250, 20), [(1, 0, 7)], [], [], [], true, 0), ((250, 46), [(1, 0, 210)], [], [], [], true, 0), ((250, 73), [(1, 0, 30)], [], [], [], true, 0)]
def ks_225 : List ((Nat × Nat) × Nat) := [((215, 22), 99), ((257, 0), 1), ((258, 0), 1), ((259, 0), 1), ((260, 0), 1)]
/-- X.undo -/
def kc_226 : jC := (160, 2, [.inl (.ref 0)], [], [(13, 8), (13, 9), (14, 9999), (15, 9999), (16, 9999), (52, 5)], [(some (0, (-5), 39), [])])
def kl_226 : List jA := []
def ks_226 : List ((Nat × Nat) × Nat) := [((114, 0), 1), ((115, 0), 1), ((215, 22), 99)]
/-- M.undo -/
def kc_227 : jC := (179, 0, [.inl (.ref 66)], [], [(66, 5), (67, 9999)], [(some (0, (-5), 39), [])])
def kl_227 : List jA := []
def ks_227 : List ((Nat × Nat) × Nat) := [((215, 22), 99), ((257, 0), 1), ((258, 0), 1), ((259, 0), 1), ((260, 0), 1)]
/-- X.redo -/
def kc_228 : jC := (161, 2, [.inl (.ref 0)], [], [(13, 8), (13, 9), (14, 9999), (15, 9999), (16, 9999), (52, 5)], [(some (0, (-39), 39), [])])
def kl_228 : List jA := []
def ks_228 : List ((Nat × Nat) × Nat) := [((114, 0), 1), ((115, 0), 1), ((215, 22), 99)]
/-- M.redo -/
def kc_229 : jC := (180, 0, [.inl (.ref 66)], [], [(66, 5), (67, 9999)], [(some (0, (-39), 39), [])])
def kl_229 : List jA := []
def ks_229 : List ((Nat × Nat) × Nat) := [((215, 22), 99), ((257, 0), 1), ((258, 0), 1), ((259, 0), 1), ((260, 0), 1)]
/-- X.body -/
def kc_230 : jC := (162, 1, [.inl (.ref 0), .inr (0, (-2147483648), 2147483647)], [], [(57, 1), (58, 9999)], [(some (0, (-3), 49), [])])
def kl_230 : List jA := []
def ks_230 : List ((Nat × Nat) × Nat) := [((114, 0), 1), ((115, 0), 1), ((215, 22), 99)]
/-- M.body -/
def kc_231 : jC := (254, 1, [.inl (.ref 66), .inr (0, (-2147483648), 2147483647)], [], [(66, 44), (95, 9999)], [(some (0, (-3), 49), [])])
def kl_231 : List jA := []
def ks_231 : List ((Nat × Nat) × Nat) := [((215, 22), 99), ((257, 0), 1), ((258, 0), 1), ((259, 0), 1), ((260, 0), 1)]
/-- X.act -/
def kc_232 : jC := (163, 17, [.inl (.ref 0), .inr (0, (-2147483648), 2147483647), .inr (0, (-2147483648), 2147483647), .inr (0, (-2147483648), 2147483647)], [], [(57, 3), (57, 4), (59, 9999)], [(some (0, (-2147483648), 2147483647), [])])
def kl_232 : List jA := []
def ks_232 : List ((Nat × Nat) × Nat) := [((114, 0), 1), ((115, 0), 1), ((215, 22), 99)]
/-- M.act -/
def kc_233 : jC := (261, 7, [.inl (.ref 66), .inr (0, (-2147483648), 2147483647), .inr (0, (-2147483648), 2147483647), .inr (0, (-2147483648), 2147483647)], [], [(66, 47), (66, 48), (66, 49), (96, 9999)], [(some (0, (-2147483648), 2147483647), [])])
def kl_233 : List jA := []
def ks_233 : List ((Nat × Nat) × Nat) := [((215, 22), 99), ((257, 0), 1), ((258, 0), 1), ((259, 0), 1), ((260, 0), 1)]
/-- X.trace -/
def kc_234 : jC := (164, 2, [.inl (.ref 0), .inr (0, (-2147483648), 2147483647)], [], [], [(some (0, (-1), 81), [])])
def kl_234 : List jA := []
def ks_234 : List ((Nat × Nat) × Nat) := [((114, 0), 1), ((115, 0), 1), ((215, 22), 99)]
/-- M.trace -/
def kc_235 : jC := (262, 0, [.inl (.ref 66), .inr (0, (-2147483648), 2147483647)], [], [], [(some (0, (-1), 81), [])])
def kl_235 : List jA := []
def ks_235 : List ((Nat × Nat) × Nat) := [((215, 22), 99), ((257, 0), 1), ((258, 0), 1), ((259, 0), 1), ((260, 0), 1)]
/-- X.keep -/
def kc_236 : jC := (165, 1, [.inl (.ref 0), .inr (0, (-2147483648), 2147483647), .inr (0, (-2147483648), 2147483647)], [], [(61, 9999), (62, 9999)], [(some (0, (-1), 1), [])])
def kl_236 : List jA := []
def ks_236 : List ((Nat × Nat) × Nat) := [((114, 0), 1), ((115, 0), 1), ((215, 22), 99)]
/-- M.keep -/
def kc_237 : jC := (264, 2, [.inl (.ref 66), .inr (0, (-2147483648), 2147483647), .inr (0, (-2147483648), 2147483647)], [], [(97, 9999), (98, 9999)], [(some (0, (-1), 1), [])])
def kl_237 : List jA := []
def ks_237 : List ((Nat × Nat) × Nat) := [((215, 22), 99), ((257, 0), 1), ((258, 0), 1), ((259, 0), 1), ((260, 0), 1)]
/-- X.row -/
def kc_238 : jC := (166, 1, [.inl (.ref 0), .inr (0, (-2147483648), 2147483647), .inr (0, (-2147483648), 2147483647), .inr (0, (-2147483648), 2147483647)], [], [(61, 9999), (63, 9999), (64, 9999), (65, 9999)], [(some (0, (-14), 1), [])])
def kl_238 : List jA := [((73, 24), [(4, 0, 60)], [], [], [], true, 0)]
def ks_238 : List ((Nat × Nat) × Nat) := [((114, 0), 1), ((115, 0), 1), ((215, 22), 99)]
/-- M.row -/
def kc_239 : jC := (265, 2, [.inl (.ref 66), .inr (0, (-2147483648), 2147483647), .inr (0, (-2147483648), 2147483647), .inr (0, (-2147483648), 2147483647)], [], [(97, 9999), (98, 9999), (99, 9999)], [(some (0, (-14), 1), [])])
def kl_239 : List jA := [((265, 57), [(4, 0, 360)], [], [], [], true, 0)]
def ks_239 : List ((Nat × Nat) × Nat) := [((215, 22), 99), ((257, 0), 1), ((258, 0), 1), ((259, 0), 1), ((260, 0), 1)]
/-- X.put -/
def kc_240 : jC := (167, 2, [.inl (.ref 0), .inr (0, (-2147483648), 2147483647), .inr (0, (-2147483648), 2147483647), .inr (1, (-9223372036854775808), 9223372036854775807)], [], [(65, 9999)], [(some (0, (-13), 1), [])])
def kl_240 : List jA := []
def ks_240 : List ((Nat × Nat) × Nat) := [((114, 0), 1), ((115, 0), 1), ((215, 22), 99)]
/-- M.put -/
def kc_241 : jC := (268, 3, [.inl (.ref 66), .inr (0, (-2147483648), 2147483647), .inr (0, (-2147483648), 2147483647), .inr (1, (-9223372036854775808), 9223372036854775807)], [], [(99, 9999)], [(some (0, (-13), 1), [])])
def kl_241 : List jA := []
def ks_241 : List ((Nat × Nat) × Nat) := [((215, 22), 99), ((257, 0), 1), ((258, 0), 1), ((259, 0), 1), ((260, 0), 1)]
/-- X.element -/
def kc_242 : jC := (168, 2, [.inl (.ref 0), .inr (0, (-2147483648), 2147483647), .inr (0, (-2147483648), 2147483647)], [], [], [(some (1, (-9223372036854775808), 9223372036854775807), [])])
def kl_242 : List jA := []
def ks_242 : List ((Nat × Nat) × Nat) := [((114, 0), 1), ((115, 0), 1), ((215, 22), 99)]
/-- M.element -/
def kc_243 : jC := (269, 3, [.inl (.ref 66), .inr (0, (-2147483648), 2147483647), .inr (0, (-2147483648), 2147483647)], [], [], [(some (1, (-9223372036854775808), 9223372036854775807), [])])
def kl_243 : List jA := []
def ks_243 : List ((Nat × Nat) × Nat) := [((215, 22), 99), ((257, 0), 1), ((258, 0), 1), ((259, 0), 1), ((260, 0), 1)]
/-- X.shift-2147483648 -/
def kc_244 : jC := (169, 2, [.inl (.ref 0), .inr (0, (-2147483648), 2147483647), .inr (0, (-2147483648), 2147483647), .inr (0, (-2147483648), 2147483647), .inr (0, (-2147483648), 2147483647), .inr (0, (-2147483648), (-1))], [], [], [(some (0, (-13), (-1)), [])])
def kl_244 : List jA := []
def ks_244 : List ((Nat × Nat) × Nat) := [((215, 22), 99)]
/-- X.shift0 -/
def kc_245 : jC := (169, 2, [.inl (.ref 0), .inr (0, (-2147483648), 2147483647), .inr (0, (-2147483648), 2147483647), .inr (0, (-2147483648), 2147483647), .inr (0, (-2147483648), 2147483647), .inr (0, 0, 0)], [], [(65, 9999)], [(some (0, (-13), 0), [])])
def kl_245 : List jA := []
def ks_245 : List ((Nat × Nat) × Nat) := [((215, 22), 99)]
/-- X.shift1 -/
def kc_246 : jC := (169, 2, [.inl (.ref 0), .inr (0, (-2147483648), 2147483647), .inr (0, (-2147483648), 2147483647), .inr (0, (-2147483648), 2147483647), .inr (0, (-2147483648), 2147483647), .inr (0, 1, 1)], [], [(65, 9999)], [(some (0, (-13), 1), [])])
def kl_246 : List jA := []
def ks_246 : List ((Nat × Nat) × Nat) := [((215, 22), 99)]
/-- X.shift2 -/
def kc_247 : jC := (169, 2, [.inl (.ref 0), .inr (0, (-2147483648), 2147483647), .inr (0, (-2147483648), 2147483647), .inr (0, (-2147483648), 2147483647), .inr (0, (-2147483648), 2147483647), .inr (0, 2, 2)], [], [(65, 9999)], [(some (0, (-13), 2), [])])
def kl_247 : List jA := []
def ks_247 : List ((Nat × Nat) × Nat) := [((215, 22), 99)]
/-- X.shift3 -/
def kc_248 : jC := (169, 2, [.inl (.ref 0), .inr (0, (-2147483648), 2147483647), .inr (0, (-2147483648), 2147483647), .inr (0, (-2147483648), 2147483647), .inr (0, (-2147483648), 2147483647), .inr (0, 3, 3)], [], [(65, 9999)], [(some (0, (-13), 3), [])])
def kl_248 : List jA := []
def ks_248 : List ((Nat × Nat) × Nat) := [((215, 22), 99)]
/-- X.shift4 -/
def kc_249 : jC := (169, 2, [.inl (.ref 0), .inr (0, (-2147483648), 2147483647), .inr (0, (-2147483648), 2147483647), .inr (0, (-2147483648), 2147483647), .inr (0, (-2147483648), 2147483647), .inr (0, 4, 4)], [], [(65, 9999)], [(some (0, (-13), 4), [])])
def kl_249 : List jA := []
def ks_249 : List ((Nat × Nat) × Nat) := [((215, 22), 99)]
/-- X.shift5 -/
def kc_250 : jC := (169, 2, [.inl (.ref 0), .inr (0, (-2147483648), 2147483647), .inr (0, (-2147483648), 2147483647), .inr (0, (-2147483648), 2147483647), .inr (0, (-2147483648), 2147483647), .inr (0, 5, 5)], [], [(65, 9999)], [(some (0, (-13), 5), [])])
def kl_250 : List jA := []
def ks_250 : List ((Nat × Nat) × Nat) := [((215, 22), 99)]
/-- X.shift6 -/
def kc_251 : jC := (169, 2, [.inl (.ref 0), .inr (0, (-2147483648), 2147483647), .inr (0, (-2147483648), 2147483647), .inr (0, (-2147483648), 2147483647), .inr (0, (-2147483648), 2147483647), .inr (0, 6, 6)], [], [(65, 9999)], [(some (0, (-13), 6), [])])
def kl_251 : List jA := []
def ks_251 : List ((Nat × Nat) × Nat) := [((215, 22), 99)]
/-- X.shift7 -/
def kc_252 : jC := (169, 2, [.inl (.ref 0), .inr (0, (-2147483648), 2147483647), .inr (0, (-2147483648), 2147483647), .inr (0, (-2147483648), 2147483647), .inr (0, (-2147483648), 2147483647), .inr (0, 7, 7)], [], [(65, 9999)], [(some (0, (-13), 7), [])])
def kl_252 : List jA := []
def ks_252 : List ((Nat × Nat) × Nat) := [((215, 22), 99)]
/-- X.shift8 -/
def kc_253 : jC := (169, 2, [.inl (.ref 0), .inr (0, (-2147483648), 2147483647), .inr (0, (-2147483648), 2147483647), .inr (0, (-2147483648), 2147483647), .inr (0, (-2147483648), 2147483647), .inr (0, 8, 8)], [], [(65, 9999)], [(some (0, (-13), 8), [])])
def kl_253 : List jA := []
def ks_253 : List ((Nat × Nat) × Nat) := [((215, 22), 99)]
/-- X.shift9 -/
def kc_254 : jC := (169, 2, [.inl (.ref 0), .inr (0, (-2147483648), 2147483647), .inr (0, (-2147483648), 2147483647), .inr (0, (-2147483648), 2147483647), .inr (0, (-2147483648), 2147483647), .inr (0, 9, 9)], [], [(65, 9999)], [(some (0, (-13), 9), [])])
def kl_254 : List jA := []
def ks_254 : List ((Nat × Nat) × Nat) := [((215, 22), 99)]
/-- X.shift10 -/
def kc_255 : jC := (169, 2, [.inl (.ref 0), .inr (0, (-2147483648), 2147483647), .inr (0, (-2147483648), 2147483647), .inr (0, (-2147483648), 2147483647), .inr (0, (-2147483648), 2147483647), .inr (0, 10, 10)], [], [(65, 9999)], [(some (0, (-13), 10), [])])
def kl_255 : List jA := []
def ks_255 : List ((Nat × Nat) × Nat) := [((215, 22), 99)]
/-- X.shift11 -/
def kc_256 : jC := (169, 2, [.inl (.ref 0), .inr (0, (-2147483648), 2147483647), .inr (0, (-2147483648), 2147483647), .inr (0, (-2147483648), 2147483647), .inr (0, (-2147483648), 2147483647), .inr (0, 11, 11)], [], [(65, 9999)], [(some (0, (-13), 11), [])])
def kl_256 : List jA := []
def ks_256 : List ((Nat × Nat) × Nat) := [((215, 22), 99)]
/-- X.shift12 -/
def kc_257 : jC := (169, 2, [.inl (.ref 0), .inr (0, (-2147483648), 2147483647), .inr (0, (-2147483648), 2147483647), .inr (0, (-2147483648), 2147483647), .inr (0, (-2147483648), 2147483647), .inr (0, 12, 12)], [], [(65, 9999)], [(some (0, (-13), 12), [])])
def kl_257 : List jA := []
def ks_257 : List ((Nat × Nat) × Nat) := [((215, 22), 99)]
/-- X.shift13 -/
def kc_258 : jC := (169, 2, [.inl (.ref 0), .inr (0, (-2147483648), 2147483647), .inr (0, (-2147483648), 2147483647), .inr (0, (-2147483648), 2147483647), .inr (0, (-2147483648), 2147483647), .inr (0, 13, 13)], [], [(65, 9999)], [(some (0, (-13), 13), [])])
def kl_258 : List jA := []
def ks_258 : List ((Nat × Nat) × Nat) := [((215, 22), 99)]
/-- X.shift14 -/
def kc_259 : jC := (169, 2, [.inl (.ref 0), .inr (0, (-2147483648), 2147483647), .inr (0, (-2147483648), 2147483647), .inr (0, (-2147483648), 2147483647), .inr (0, (-2147483648), 2147483647), .inr (0, 14, 14)], [], [(65, 9999)], [(some (0, (-13), 14), [])])
def kl_259 : List jA := []
def ks_259 : List ((Nat × Nat) × Nat) := [((215, 22), 99)]
/-- X.shift15 -/
def kc_260 : jC := (169, 2, [.inl (.ref 0), .inr (0, (-2147483648), 2147483647), .inr (0, (-2147483648), 2147483647), .inr (0, (-2147483648), 2147483647), .inr (0, (-2147483648), 2147483647), .inr (0, 15, 15)], [], [(65, 9999)], [(some (0, (-13), 15), [])])
def kl_260 : List jA := []
def ks_260 : List ((Nat × Nat) × Nat) := [((215, 22), 99)]
/-- X.shift16 -/
def kc_261 : jC := (169, 2, [.inl (.ref 0), .inr (0, (-2147483648), 2147483647), .inr (0, (-2147483648), 2147483647), .inr (0, (-2147483648), 2147483647), .inr (0, (-2147483648), 2147483647), .inr (0, 16, 16)], [], [(65, 9999)], [(some (0, (-13), 16), [])])
def kl_261 : List jA := []
def ks_261 : List ((Nat × Nat) × Nat) := [((215, 22), 99)]
/-- X.shift17 -/
def kc_262 : jC := (169, 2, [.inl (.ref 0), .inr (0, (-2147483648), 2147483647), .inr (0, (-2147483648), 2147483647), .inr (0, (-2147483648), 2147483647), .inr (0, (-2147483648), 2147483647), .inr (0, 17, 17)], [], [(65, 9999)], [(some (0, (-13), 17), [])])
def kl_262 : List jA := []
def ks_262 : List ((Nat × Nat) × Nat) := [((215, 22), 99)]
/-- X.shift18 -/
def kc_263 : jC := (169, 2, [.inl (.ref 0), .inr (0, (-2147483648), 2147483647), .inr (0, (-2147483648), 2147483647), .inr (0, (-2147483648), 2147483647), .inr (0, (-2147483648), 2147483647), .inr (0, 18, 18)], [], [(65, 9999)], [(some (0, (-13), 18), [])])
def kl_263 : List jA := []
def ks_263 : List ((Nat × Nat) × Nat) := [((215, 22), 99)]
/-- X.shift19 -/
def kc_264 : jC := (169, 2, [.inl (.ref 0), .inr (0, (-2147483648), 2147483647), .inr (0, (-2147483648), 2147483647), .inr (0, (-2147483648), 2147483647), .inr (0, (-2147483648), 2147483647), .inr (0, 19, 19)], [], [(65, 9999)], [(some (0, (-13), 19), [])])
def kl_264 : List jA := []
def ks_264 : List ((Nat × Nat) × Nat) := [((215, 22), 99)]
/-- X.shift20 -/
def kc_265 : jC := (169, 2, [.inl (.ref 0), .inr (0, (-2147483648), 2147483647), .inr (0, (-2147483648), 2147483647), .inr (0, (-2147483648), 2147483647), .inr (0, (-2147483648), 2147483647), .inr (0, 20, 20)], [], [(65, 9999)], [(some (0, (-13), 20), [])])
def kl_265 : List jA := []
def ks_265 : List ((Nat × Nat) × Nat) := [((215, 22), 99)]
/-- X.shift21 -/
def kc_266 : jC := (169, 2, [.inl (.ref 0), .inr (0, (-2147483648), 2147483647), .inr (0, (-2147483648), 2147483647), .inr (0, (-2147483648), 2147483647), .inr (0, (-2147483648), 2147483647), .inr (0, 21, 21)], [], [(65, 9999)], [(some (0, (-13), 21), [])])
def kl_266 : List jA := []
def ks_266 : List ((Nat × Nat) × Nat) := [((215, 22), 99)]
/-- X.shift22 -/
def kc_267 : jC := (169, 2, [.inl (.ref 0), .inr (0, (-2147483648), 2147483647), .inr (0, (-2147483648), 2147483647), .inr (0, (-2147483648), 2147483647), .inr (0, (-2147483648), 2147483647), .inr (0, 22, 22)], [], [(65, 9999)], [(some (0, (-13), 22), [])])
def kl_267 : List jA := []
def ks_267 : List ((Nat × Nat) × Nat) := [((215, 22), 99)]
/-- X.shift23 -/
def kc_268 : jC := (169, 2, [.inl (.ref 0), .inr (0, (-2147483648), 2147483647), .inr (0, (-2147483648), 2147483647), .inr (0, (-2147483648), 2147483647), .inr (0, (-2147483648), 2147483647), .inr (0, 23, 23)], [], [(65, 9999)], [(some (0, (-13), 23), [])])
def kl_268 : List jA := []
def ks_268 : List ((Nat × Nat) × Nat) := [((215, 22), 99)]
/-- X.shift24 -/
def kc_269 : jC := (169, 2, [.inl (.ref 0), .inr (0, (-2147483648), 2147483647), .inr (0, (-2147483648), 2147483647), .inr (0, (-2147483648), 2147483647), .inr (0, (-2147483648), 2147483647), .inr (0, 24, 24)], [], [(65, 9999)], [(some (0, (-13), 24), [])])
def kl_269 : List jA := []
def ks_269 : List ((Nat × Nat) × Nat) := [((215, 22), 99)]
/-- X.shift25 -/
def kc_270 : jC := (169, 2, [.inl (.ref 0), .inr (0, (-2147483648), 2147483647), .inr (0, (-2147483648), 2147483647), .inr (0, (-2147483648), 2147483647), .inr (0, (-2147483648), 2147483647), .inr (0, 25, 25)], [], [(65, 9999)], [(some (0, (-13), 25), [])])
def kl_270 : List jA := []
def ks_270 : List ((Nat × Nat) × Nat) := [((215, 22), 99)]
/-- X.shift26 -/
def kc_271 : jC := (169, 2, [.inl (.ref 0), .inr (0, (-2147483648), 2147483647), .inr (0, (-2147483648), 2147483647), .inr (0, (-2147483648), 2147483647), .inr (0, (-2147483648), 2147483647), .inr (0, 26, 26)], [], [(65, 9999)], [(some (0, (-13), 26), [])])
def kl_271 : List jA := []
def ks_271 : List ((Nat × Nat) × Nat) := [((215, 22), 99)]
/-- X.shift27 -/
def kc_272 : jC := (169, 2, [.inl (.ref 0), .inr (0, (-2147483648), 2147483647), .inr (0, (-2147483648), 2147483647), .inr (0, (-2147483648), 2147483647), .inr (0, (-2147483648), 2147483647), .inr (0, 27, 27)], [], [(65, 9999)], [(some (0, (-13), 27), [])])
def kl_272 : List jA := []
def ks_272 : List ((Nat × Nat) × Nat) := [((215, 22), 99)]
/-- X.shift28 -/
def kc_273 : jC := (169, 2, [.inl (.ref 0), .inr (0, (-2147483648), 2147483647), .inr (0, (-2147483648), 2147483647), .inr (0, (-2147483648), 2147483647), .inr (0, (-2147483648), 2147483647), .inr (0, 28, 28)], [], [(65, 9999)], [(some (0, (-13), 28), [])])
def kl_273 : List jA := []
def ks_273 : List ((Nat × Nat) × Nat) := [((215, 22), 99)]
/-- X.shift29 -/
def kc_274 : jC := (169, 2, [.inl (.ref 0), .inr (0, (-2147483648), 2147483647), .inr (0, (-2147483648), 2147483647), .inr (0, (-2147483648), 2147483647), .inr (0, (-2147483648), 2147483647), .inr (0, 29, 29)], [], [(65, 9999)], [(some (0, (-13), 29), [])])
def kl_274 : List jA := []
def ks_274 : List ((Nat × Nat) × Nat) := [((215, 22), 99)]
/-- X.shift30 -/
def kc_275 : jC := (169, 2, [.inl (.ref 0), .inr (0, (-2147483648), 2147483647), .inr (0, (-2147483648), 2147483647), .inr (0, (-2147483648), 2147483647), .inr (0, (-2147483648), 2147483647), .inr (0, 30, 30)], [], [(65, 9999)], [(some (0, (-13), 30), [])])
def kl_275 : List jA := []
def ks_275 : List ((Nat × Nat) × Nat) := [((215, 22), 99)]
/-- X.shift31 -/
def kc_276 : jC := (169, 2, [.inl (.ref 0), .inr (0, (-2147483648), 2147483647), .inr (0, (-2147483648), 2147483647), .inr (0, (-2147483648), 2147483647), .inr (0, (-2147483648), 2147483647), .inr (0, 31, 31)], [], [(65, 9999)], [(some (0, (-13), 31), [])])
def kl_276 : List jA := []
def ks_276 : List ((Nat × Nat) × Nat) := [((215, 22), 99)]
/-- X.shift32 -/
def kc_277 : jC := (169, 2, [.inl (.ref 0), .inr (0, (-2147483648), 2147483647), .inr (0, (-2147483648), 2147483647), .inr (0, (-2147483648), 2147483647), .inr (0, (-2147483648), 2147483647), .inr (0, 32, 32)], [], [(65, 9999)], [(some (0, (-13), 32), [])])
def kl_277 : List jA := []
def ks_277 : List ((Nat × Nat) × Nat) := [((215, 22), 99)]
/-- X.shift33 -/
def kc_278 : jC := (169, 2, [.inl (.ref 0), .inr (0, (-2147483648), 2147483647), .inr (0, (-2147483648), 2147483647), .inr (0, (-2147483648), 2147483647), .inr (0, (-2147483648), 2147483647), .inr (0, 33, 33)], [], [(65, 9999)], [(some (0, (-13), 33), [])])
def kl_278 : List jA := []
def ks_278 : List ((Nat × Nat) × Nat) := [((215, 22), 99)]
/-- X.shift34 -/
def kc_279 : jC := (169, 2, [.inl (.ref 0), .inr (0, (-2147483648), 2147483647), .inr (0, (-2147483648), 2147483647), .inr (0, (-2147483648), 2147483647), .inr (0, (-2147483648), 2147483647), .inr (0, 34, 34)], [], [(65, 9999)], [(some (0, (-13), 34), [])])
def kl_279 : List jA := []
def ks_279 : List ((Nat × Nat) × Nat) := [((215, 22), 99)]
/-- X.shift35 -/
def kc_280 : jC := (169, 2, [.inl (.ref 0), .inr (0, (-2147483648), 2147483647), .inr (0, (-2147483648), 2147483647), .inr (0, (-2147483648), 2147483647), .inr (0, (-2147483648), 2147483647), .inr (0, 35, 35)], [], [(65, 9999)], [(some (0, (-13), 35), [])])
def kl_280 : List jA := []
def ks_280 : List ((Nat × Nat) × Nat) := [((215, 22), 99)]
/-- X.shift36 -/
def kc_281 : jC := (169, 2, [.inl (.ref 0), .inr (0, (-2147483648), 2147483647), .inr (0, (-2147483648), 2147483647), .inr (0, (-2147483648), 2147483647), .inr (0, (-2147483648), 2147483647), .inr (0, 36, 36)], [], [(65, 9999)], [(some (0, (-13), 36), [])])
def kl_281 : List jA := []
def ks_281 : List ((Nat × Nat) × Nat) := [((215, 22), 99)]
/-- X.shift37 -/
def kc_282 : jC := (169, 2, [.inl (.ref 0), .inr (0, (-2147483648), 2147483647), .inr (0, (-2147483648), 2147483647), .inr (0, (-2147483648), 2147483647), .inr (0, (-2147483648), 2147483647), .inr (0, 37, 37)], [], [(65, 9999)], [(some (0, (-13), 37), [])])
def kl_282 : List jA := []
def ks_282 : List ((Nat × Nat) × Nat) := [((215, 22), 99)]
/-- X.shift38 -/
def kc_283 : jC := (169, 2, [.inl (.ref 0), .inr (0, (-2147483648), 2147483647), .inr (0, (-2147483648), 2147483647), .inr (0, (-2147483648), 2147483647), .inr (0, (-2147483648), 2147483647), .inr (0, 38, 38)], [], [(65, 9999)], [(some (0, (-13), 38), [])])
def kl_283 : List jA := []
def ks_283 : List ((Nat × Nat) × Nat) := [((215, 22), 99)]
/-- X.shift39 -/
def kc_284 : jC := (169, 2, [.inl (.ref 0), .inr (0, (-2147483648), 2147483647), .inr (0, (-2147483648), 2147483647), .inr (0, (-2147483648), 2147483647), .inr (0, (-2147483648), 2147483647), .inr (0, 39, 39)], [], [(65, 9999)], [(some (0, (-13), 39), [])])
def kl_284 : List jA := []
def ks_284 : List ((Nat × Nat) × Nat) := [((215, 22), 99)]
/-- X.shift40 -/
def kc_285 : jC := (169, 2, [.inl (.ref 0), .inr (0, (-2147483648), 2147483647), .inr (0, (-2147483648), 2147483647), .inr (0, (-2147483648), 2147483647), .inr (0, (-2147483648), 2147483647), .inr (0, 40, 40)], [], [(65, 9999)], [(some (0, (-13), 40), [])])
def kl_285 : List jA := []
def ks_285 : List ((Nat × Nat) × Nat) := [((215, 22), 99)]
/-- X.shift41 -/
def kc_286 : jC := (169, 2, [.inl (.ref 0), .inr (0, (-2147483648), 2147483647), .inr (0, (-2147483648), 2147483647), .inr (0, (-2147483648), 2147483647), .inr (0, (-2147483648), 2147483647), .inr (0, 41, 41)], [], [(65, 9999)], [(some (0, (-13), 41), [])])
def kl_286 : List jA := []
def ks_286 : List ((Nat × Nat) × Nat) := [((215, 22), 99)]
/-- X.shift42 -/
def kc_287 : jC := (169, 2, [.inl (.ref 0), .inr (0, (-2147483648), 2147483647), .inr (0, (-2147483648), 2147483647), .inr (0, (-2147483648), 2147483647), .inr (0, (-2147483648), 2147483647), .inr (0, 42, 42)], [], [(65, 9999)], [(some (0, (-13), 42), [])])
def kl_287 : List jA := []
def ks_287 : List ((Nat × Nat) × Nat) := [((215, 22), 99)]
/-- X.shift43 -/
def kc_288 : jC := (169, 2, [.inl (.ref 0), .inr (0, (-2147483648), 2147483647), .inr (0, (-2147483648), 2147483647), .inr (0, (-2147483648), 2147483647), .inr (0, (-2147483648), 2147483647), .inr (0, 43, 43)], [], [(65, 9999)], [(some (0, (-13), 43), [])])
def kl_288 : List jA := []
def ks_288 : List ((Nat × Nat) × Nat) := [((215, 22), 99)]
/-- X.shift44 -/
def kc_289 : jC := (169, 2, [.inl (.ref 0), .inr (0, (-2147483648), 2147483647), .inr (0, (-2147483648), 2147483647), .inr (0, (-2147483648), 2147483647), .inr (0, (-2147483648), 2147483647), .inr (0, 44, 44)], [], [(65, 9999)], [(some (0, (-13), 44), [])])
def kl_289 : List jA := []
def ks_289 : List ((Nat × Nat) × Nat) := [((215, 22), 99)]
/-- X.shift45 -/
def kc_290 : jC := (169, 2, [.inl (.ref 0), .inr (0, (-2147483648), 2147483647), .inr (0, (-2147483648), 2147483647), .inr (0, (-2147483648), 2147483647), .inr (0, (-2147483648), 2147483647), .inr (0, 45, 45)], [], [(65, 9999)], [(some (0, (-13), 45), [])])
def kl_290 : List jA := []
def ks_290 : List ((Nat × Nat) × Nat) := [((215, 22), 99)]
/-- X.shift46 -/
def kc_291 : jC := (169, 2, [.inl (.ref 0), .inr (0, (-2147483648), 2147483647), .inr (0, (-2147483648), 2147483647), .inr (0, (-2147483648), 2147483647), .inr (0, (-2147483648), 2147483647), .inr (0, 46, 46)], [], [(65, 9999)], [(some (0, (-13), 46), [])])
def kl_291 : List jA := []
def ks_291 : List ((Nat × Nat) × Nat) := [((215, 22), 99)]
/-- X.shift47 -/
def kc_292 : jC := (169, 2, [.inl (.ref 0), .inr (0, (-2147483648), 2147483647), .inr (0, (-2147483648), 2147483647), .inr (0, (-2147483648), 2147483647), .inr (0, (-2147483648), 2147483647), .inr (0, 47, 47)], [], [(65, 9999)], [(some (0, (-13), 47), [])])
def kl_292 : List jA := []
def ks_292 : List ((Nat × Nat) × Nat) := [((215, 22), 99)]
/-- X.shift48 -/
def kc_293 : jC := (169, 2, [.inl (.ref 0), .inr (0, (-2147483648), 2147483647), .inr (0, (-2147483648), 2147483647), .inr (0, (-2147483648), 2147483647), .inr (0, (-2147483648), 2147483647), .inr (0, 48, 48)], [], [(65, 9999)], [(some (0, (-13), 48), [])])
def kl_293 : List jA := []
def ks_293 : List ((Nat × Nat) × Nat) := [((215, 22), 99)]
/-- X.shift49 -/
def kc_294 : jC := (169, 2, [.inl (.ref 0), .inr (0, (-2147483648), 2147483647), .inr (0, (-2147483648), 2147483647), .inr (0, (-2147483648), 2147483647), .inr (0, (-2147483648), 2147483647), .inr (0, 49, 49)], [], [(65, 9999)], [(some (0, (-13), 49), [])])
def kl_294 : List jA := []
def ks_294 : List ((Nat × Nat) × Nat) := [((215, 22), 99)]
/-- X.shift50 -/
def kc_295 : jC := (169, 2, [.inl (.ref 0), .inr (0, (-2147483648), 2147483647), .inr (0, (-2147483648), 2147483647), .inr (0, (-2147483648), 2147483647), .inr (0, (-2147483648), 2147483647), .inr (0, 50, 50)], [], [(65, 9999)], [(some (0, (-13), 50), [])])
def kl_295 : List jA := []
def ks_295 : List ((Nat × Nat) × Nat) := [((215, 22), 99)]
/-- X.shift51 -/
def kc_296 : jC := (169, 2, [.inl (.ref 0), .inr (0, (-2147483648), 2147483647), .inr (0, (-2147483648), 2147483647), .inr (0, (-2147483648), 2147483647), .inr (0, (-2147483648), 2147483647), .inr (0, 51, 51)], [], [(65, 9999)], [(some (0, (-13), 51), [])])
def kl_296 : List jA := []
def ks_296 : List ((Nat × Nat) × Nat) := [((215, 22), 99)]
/-- X.shift52 -/
def kc_297 : jC := (169, 2, [.inl (.ref 0), .inr (0, (-2147483648), 2147483647), .inr (0, (-2147483648), 2147483647), .inr (0, (-2147483648), 2147483647), .inr (0, (-2147483648), 2147483647), .inr (0, 52, 52)], [], [(65, 9999)], [(some (0, (-13), 52), [])])
def kl_297 : List jA := []
def ks_297 : List ((Nat × Nat) × Nat) := [((215, 22), 99)]
/-- X.shift53 -/
def kc_298 : jC := (169, 2, [.inl (.ref 0), .inr (0, (-2147483648), 2147483647), .inr (0, (-2147483648), 2147483647), .inr (0, (-2147483648), 2147483647), .inr (0, (-2147483648), 2147483647), .inr (0, 53, 53)], [], [(65, 9999)], [(some (0, (-13), 53), [])])
def kl_298 : List jA := []
def ks_298 : List ((Nat × Nat) × Nat) := [((215, 22), 99)]
/-- X.shift54 -/
def kc_299 : jC := (169, 2, [.inl (.ref 0), .inr (0, (-2147483648), 2147483647), .inr (0, (-2147483648), 2147483647), .inr (0, (-2147483648), 2147483647), .inr (0, (-2147483648), 2147483647), .inr (0, 54, 54)], [], [(65, 9999)], [(some (0, (-13), 54), [])])
def kl_299 : List jA := []
def ks_299 : List ((Nat × Nat) × Nat) := [((215, 22), 99)]
/-- X.shift55 -/
def kc_300 : jC := (169, 2, [.inl (.ref 0), .inr (0, (-2147483648), 2147483647), .inr (0, (-2147483648), 2147483647), .inr (0, (-2147483648), 2147483647), .inr (0, (-2147483648), 2147483647), .inr (0, 55, 55)], [], [(65, 9999)], [(some (0, (-13), 55), [])])
def kl_300 : List jA := []
def ks_300 : List ((Nat × Nat) × Nat) := [((215, 22), 99)]
/-- X.shift56 -/
def kc_301 : jC := (169, 2, [.inl (.ref 0), .inr (0, (-2147483648), 2147483647), .inr (0, (-2147483648), 2147483647), .inr (0, (-2147483648), 2147483647), .inr (0, (-2147483648), 2147483647), .inr (0, 56, 56)], [], [(65, 9999)], [(some (0, (-13), 56), [])])
def kl_301 : List jA := []
def ks_301 : List ((Nat × Nat) × Nat) := [((215, 22), 99)]
/-- X.shift57 -/
def kc_302 : jC := (169, 2, [.inl (.ref 0), .inr (0, (-2147483648), 2147483647), .inr (0, (-2147483648), 2147483647), .inr (0, (-2147483648), 2147483647), .inr (0, (-2147483648), 2147483647), .inr (0, 57, 57)], [], [(65, 9999)], [(some (0, (-13), 57), [])])
def kl_302 : List jA := []
def ks_302 : List ((Nat × Nat) × Nat) := [((215, 22), 99)]
/-- X.shift58 -/
def kc_303 : jC := (169, 2, [.inl (.ref 0), .inr (0, (-2147483648), 2147483647), .inr (0, (-2147483648), 2147483647), .inr (0, (-2147483648), 2147483647), .inr (0, (-2147483648), 2147483647), .inr (0, 58, 58)], [], [(65, 9999)], [(some (0, (-13), 58), [])])
def kl_303 : List jA := []
def ks_303 : List ((Nat × Nat) × Nat) := [((215, 22), 99)]
/-- X.shift59 -/
def kc_304 : jC := (169, 2, [.inl (.ref 0), .inr (0, (-2147483648), 2147483647), .inr (0, (-2147483648), 2147483647), .inr (0, (-2147483648), 2147483647), .inr (0, (-2147483648), 2147483647), .inr (0, 59, 59)], [], [(65, 9999)], [(some (0, (-13), 59), [])])
def kl_304 : List jA := []
def ks_304 : List ((Nat × Nat) × Nat) := [((215, 22), 99)]
/-- X.shift60 -/
def kc_305 : jC := (169, 2, [.inl (.ref 0), .inr (0, (-2147483648), 2147483647), .inr (0, (-2147483648), 2147483647), .inr (0, (-2147483648), 2147483647), .inr (0, (-2147483648), 2147483647), .inr (0, 60, 60)], [], [(65, 9999)], [(some (0, (-13), 60), [])])
def kl_305 : List jA := []
def ks_305 : List ((Nat × Nat) × Nat) := [((215, 22), 99)]
/-- X.shift61 -/
def kc_306 : jC := (169, 2, [.inl (.ref 0), .inr (0, (-2147483648), 2147483647), .inr (0, (-2147483648), 2147483647), .inr (0, (-2147483648), 2147483647), .inr (0, (-2147483648), 2147483647), .inr (0, 61, 2147483647)], [], [], [(some (0, (-13), (-1)), [])])
def kl_306 : List jA := []
def ks_306 : List ((Nat × Nat) × Nat) := [((215, 22), 99)]
/-- M.shift-2147483648 -/
def kc_307 : jC := (270, 2, [.inl (.ref 66), .inr (0, (-2147483648), 2147483647), .inr (0, (-2147483648), 2147483647), .inr (0, (-2147483648), 2147483647), .inr (0, (-2147483648), 2147483647), .inr (0, (-2147483648), (-1))], [], [], [(some (0, (-13), (-1)), [])])
def kl_307 : List jA := []
def ks_307 : List ((Nat × Nat) × Nat) := [((215, 22), 99)]
/-- M.shift0 -/
def kc_308 : jC := (270, 2, [.inl (.ref 66), .inr (0, (-2147483648), 2147483647), .inr (0, (-2147483648), 2147483647), .inr (0, (-2147483648), 2147483647), .inr (0, (-2147483648), 2147483647), .inr (0, 0, 0)], [], [], [(some (0, (-13), 0), [])])
def kl_308 : List jA := []
def ks_308 : List ((Nat × Nat) × Nat) := [((215, 22), 99)]
/-- M.shift1 -/
def kc_309 : jC := (270, 2, [.inl (.ref 66), .inr (0, (-2147483648), 2147483647), .inr (0, (-2147483648), 2147483647), .inr (0, (-2147483648), 2147483647), .inr (0, (-2147483648), 2147483647), .inr (0, 1, 1)], [], [(99, 9999), (100, 9999)], [(some (0, (-13), 1), [])])
def kl_309 : List jA := [((270, 113), [(6, 0, 1)], [], [], [], true, 0), ((270, 150), [(6, 0, 1)], [], [], [], true, 0)]
def ks_309 : List ((Nat × Nat) × Nat) := [((215, 22), 99)]
/-- M.shift2 -/
def kc_310 : jC := (270, 2, [.inl (.ref 66), .inr (0, (-2147483648), 2147483647), .inr (0, (-2147483648), 2147483647), .inr (0, (-2147483648), 2147483647), .inr (0, (-2147483648), 2147483647), .inr (0, 2, 2)], [], [(99, 9999), (100, 9999)], [(some (0, (-13), 2), [])])
def kl_310 : List jA := [((270, 113), [(6, 0, 2)], [], [], [], true, 0), ((270, 150), [(6, 0, 2)], [], [], [], true, 0)]
def ks_310 : List ((Nat × Nat) × Nat) := [((215, 22), 99)]
/-- M.shift3 -/
def kc_311 : jC := (270, 2, [.inl (.ref 66), .inr (0, (-2147483648), 2147483647), .inr (0, (-2147483648), 2147483647), .inr (0, (-2147483648), 2147483647), .inr (0, (-2147483648), 2147483647), .inr (0, 3, 3)], [], [(99, 9999), (100, 9999)], [(some (0, (-13), 3), [])])
def kl_311 : List jA := [((270, 113), [(6, 0, 3)], [], [], [], true, 0), ((270, 150), [(6, 0, 3)], [], [], [], true, 0)]
def ks_311 : List ((Nat × Nat) × Nat) := [((215, 22), 99)]
/-- M.shift4 -/
def kc_312 : jC := (270, 2, [.inl (.ref 66), .inr (0, (-2147483648), 2147483647), .inr (0, (-2147483648), 2147483647), .inr (0, (-2147483648), 2147483647), .inr (0, (-2147483648), 2147483647), .inr (0, 4, 4)], [], [(99, 9999), (100, 9999)], [(some (0, (-13), 4), [])])
def kl_312 : List jA := [((270, 113), [(6, 0, 4)], [], [], [], true, 0), ((270, 150), [(6, 0, 4)], [], [], [], true, 0)]
def ks_312 : List ((Nat × Nat) × Nat) := [((215, 22), 99)]
/-- M.shift5 -/
def kc_313 : jC := (270, 2, [.inl (.ref 66), .inr (0, (-2147483648), 2147483647), .inr (0, (-2147483648), 2147483647), .inr (0, (-2147483648), 2147483647), .inr (0, (-2147483648), 2147483647), .inr (0, 5, 5)], [], [(99, 9999), (100, 9999)], [(some (0, (-13), 5), [])])
def kl_313 : List jA := [((270, 113), [(6, 0, 5)], [], [], [], true, 0), ((270, 150), [(6, 0, 5)], [], [], [], true, 0)]
def ks_313 : List ((Nat × Nat) × Nat) := [((215, 22), 99)]
/-- M.shift6 -/
def kc_314 : jC := (270, 2, [.inl (.ref 66), .inr (0, (-2147483648), 2147483647), .inr (0, (-2147483648), 2147483647), .inr (0, (-2147483648), 2147483647), .inr (0, (-2147483648), 2147483647), .inr (0, 6, 6)], [], [(99, 9999), (100, 9999)], [(some (0, (-13), 6), [])])
def kl_314 : List jA := [((270, 113), [(6, 0, 6)], [], [], [], true, 0), ((270, 150), [(6, 0, 6)], [], [], [], true, 0)]
def ks_314 : List ((Nat × Nat) × Nat) := [((215, 22), 99)]
/-- M.shift7 -/
def kc_315 : jC := (270, 2, [.inl (.ref 66), .inr (0, (-2147483648), 2147483647), .inr (0, (-2147483648), 2147483647), .inr (0, (-2147483648), 2147483647), .inr (0, (-2147483648), 2147483647), .inr (0, 7, 7)], [], [(99, 9999), (100, 9999)], [(some (0, (-13), 7), [])])
def kl_315 : List jA := [((270, 113), [(6, 0, 7)], [], [], [], true, 0), ((270, 150), [(6, 0, 7)], [], [], [], true, 0)]
def ks_315 : List ((Nat × Nat) × Nat) := [((215, 22), 99)]
/-- M.shift8 -/
def kc_316 : jC := (270, 2, [.inl (.ref 66), .inr (0, (-2147483648), 2147483647), .inr (0, (-2147483648), 2147483647), .inr (0, (-2147483648), 2147483647), .inr (0, (-2147483648), 2147483647), .inr (0, 8, 8)], [], [(99, 9999), (100, 9999)], [(some (0, (-13), 8), [])])
def kl_316 : List jA := [((270, 113), [(6, 0, 8)], [], [], [], true, 0), ((270, 150), [(6, 0, 8)], [], [], [], true, 0)]
def ks_316 : List ((Nat × Nat) × Nat) := [((215, 22), 99)]
/-- M.shift9 -/
def kc_317 : jC := (270, 2, [.inl (.ref 66), .inr (0, (-2147483648), 2147483647), .inr (0, (-2147483648), 2147483647), .inr (0, (-2147483648), 2147483647), .inr (0, (-2147483648), 2147483647), .inr (0, 9, 9)], [], [(99, 9999), (100, 9999)], [(some (0, (-13), 9), [])])
def kl_317 : List jA := [((270, 113), [(6, 0, 9)], [], [], [], true, 0), ((270, 150), [(6, 0, 9)], [], [], [], true, 0)]
def ks_317 : List ((Nat × Nat) × Nat) := [((215, 22), 99)]
/-- M.shift10 -/
def kc_318 : jC := (270, 2, [.inl (.ref 66), .inr (0, (-2147483648), 2147483647), .inr (0, (-2147483648), 2147483647), .inr (0, (-2147483648), 2147483647), .inr (0, (-2147483648), 2147483647), .inr (0, 10, 10)], [], [(99, 9999), (100, 9999)], [(some (0, (-13), 10), [])])
def kl_318 : List jA := [((270, 113), [(6, 0, 10)], [], [], [], true, 0), ((270, 150), [(6, 0, 10)], [], [], [], true, 0)]
def ks_318 : List ((Nat × Nat) × Nat) := [((215, 22), 99)]
/-- M.shift11 -/
def kc_319 : jC := (270, 2, [.inl (.ref 66), .inr (0, (-2147483648), 2147483647), .inr (0, (-2147483648), 2147483647), .inr (0, (-2147483648), 2147483647), .inr (0, (-2147483648), 2147483647), .inr (0, 11, 11)], [], [(99, 9999), (100, 9999)], [(some (0, (-13), 11), [])])
def kl_319 : List jA := [((270, 113), [(6, 0, 11)], [], [], [], true, 0), ((270, 150), [(6, 0, 11)], [], [], [], true, 0)]
def ks_319 : List ((Nat × Nat) × Nat) := [((215, 22), 99)]
/-- M.shift12 -/
def kc_320 : jC := (270, 2, [.inl (.ref 66), .inr (0, (-2147483648), 2147483647), .inr (0, (-2147483648), 2147483647), .inr (0, (-2147483648), 2147483647), .inr (0, (-2147483648), 2147483647), .inr (0, 12, 12)], [], [(99, 9999), (100, 9999)], [(some (0, (-13), 12), [])])
def kl_320 : List jA := [((270, 113), [(6, 0, 12)], [], [], [], true, 0), ((270, 150), [(6, 0, 12)], [], [], [], true, 0)]
def ks_320 : List ((Nat × Nat) × Nat) := [((215, 22), 99)]
/-- M.shift13 -/
def kc_321 : jC := (270, 2, [.inl (.ref 66), .inr (0, (-2147483648), 2147483647), .inr (0, (-2147483648), 2147483647), .inr (0, (-2147483648), 2147483647), .inr (0, (-2147483648), 2147483647), .inr (0, 13, 13)], [], [(99, 9999), (100, 9999)], [(some (0, (-13), 13), [])])
def kl_321 : List jA := [((270, 113), [(6, 0, 13)], [], [], [], true, 0), ((270, 150), [(6, 0, 13)], [], [], [], true, 0)]
def ks_321 : List ((Nat × Nat) × Nat) := [((215, 22), 99)]
/-- M.shift14 -/
def kc_322 : jC := (270, 2, [.inl (.ref 66), .inr (0, (-2147483648), 2147483647), .inr (0, (-2147483648), 2147483647), .inr (0, (-2147483648), 2147483647), .inr (0, (-2147483648), 2147483647), .inr (0, 14, 14)], [], [(99, 9999), (100, 9999)], [(some (0, (-13), 14), [])])
def kl_322 : List jA := [((270, 113), [(6, 0, 19)], [], [], [], true, 0), ((270, 150), [(6, 0, 19)], [], [], [], true, 0)]
def ks_322 : List ((Nat × Nat) × Nat) := [((215, 22), 99)]
/-- M.shift15 -/
def kc_323 : jC := (270, 2, [.inl (.ref 66), .inr (0, (-2147483648), 2147483647), .inr (0, (-2147483648), 2147483647), .inr (0, (-2147483648), 2147483647), .inr (0, (-2147483648), 2147483647), .inr (0, 15, 15)], [], [(99, 9999), (100, 9999)], [(some (0, (-13), 15), [])])
def kl_323 : List jA := [((270, 113), [(6, 0, 19)], [], [], [], true, 0), ((270, 150), [(6, 0, 19)], [], [], [], true, 0)]
def ks_323 : List ((Nat × Nat) × Nat) := [((215, 22), 99)]
/-- M.shift16 -/
def kc_324 : jC := (270, 2, [.inl (.ref 66), .inr (0, (-2147483648), 2147483647), .inr (0, (-2147483648), 2147483647), .inr (0, (-2147483648), 2147483647), .inr (0, (-2147483648), 2147483647), .inr (0, 16, 16)], [], [(99, 9999), (100, 9999)], [(some (0, (-13), 16), [])])
def kl_324 : List jA := [((270, 113), [(6, 0, 19)], [], [], [], true, 0), ((270, 150), [(6, 0, 19)], [], [], [], true, 0)]
def ks_324 : List ((Nat × Nat) × Nat) := [((215, 22), 99)]
/-- M.shift17 -/
def kc_325 : jC := (270, 2, [.inl (.ref 66), .inr (0, (-2147483648), 2147483647), .inr (0, (-2147483648), 2147483647), .inr (0, (-2147483648), 2147483647), .inr (0, (-2147483648), 2147483647), .inr (0, 17, 17)], [], [(99, 9999), (100, 9999)], [(some (0, (-13), 17), [])])
def kl_325 : List jA := [((270, 113), [(6, 0, 19)], [], [], [], true, 0), ((270, 150), [(6, 0, 19)], [], [], [], true, 0)]
def ks_325 : List ((Nat × Nat) × Nat) := [((215, 22), 99)]
/-- M.shift18 -/
def kc_326 : jC := (270, 2, [.inl (.ref 66), .inr (0, (-2147483648), 2147483647), .inr (0, (-2147483648), 2147483647), .inr (0, (-2147483648), 2147483647), .inr (0, (-2147483648), 2147483647), .inr (0, 18, 18)], [], [(99, 9999), (100, 9999)], [(some (0, (-13), 18), [])])
def kl_326 : List jA := [((270, 113), [(6, 0, 19)], [], [], [], true, 0), ((270, 150), [(6, 0, 19)], [], [], [], true, 0)]
def ks_326 : List ((Nat × Nat) × Nat) := [((215, 22), 99)]
/-- M.shift19 -/
def kc_327 : jC := (270, 2, [.inl (.ref 66), .inr (0, (-2147483648), 2147483647), .inr (0, (-2147483648), 2147483647), .inr (0, (-2147483648), 2147483647), .inr (0, (-2147483648), 2147483647), .inr (0, 19, 19)], [], [(99, 9999), (100, 9999)], [(some (0, (-13), 19), [])])
def kl_327 : List jA := [((270, 113), [(6, 0, 19)], [], [], [], true, 0), ((270, 150), [(6, 0, 19)], [], [], [], true, 0)]
def ks_327 : List ((Nat × Nat) × Nat) := [((215, 22), 99)]
/-- M.shift20 -/
def kc_328 : jC := (270, 2, [.inl (.ref 66), .inr (0, (-2147483648), 2147483647), .inr (0, (-2147483648), 2147483647), .inr (0, (-2147483648), 2147483647), .inr (0, (-2147483648), 2147483647), .inr (0, 20, 20)], [], [(99, 9999), (100, 9999)], [(some (0, (-13), 20), [])])
def kl_328 : List jA := [((270, 113), [(6, 0, 20)], [], [], [], true, 0), ((270, 150), [(6, 0, 20)], [], [], [], true, 0)]
def ks_328 : List ((Nat × Nat) × Nat) := [((215, 22), 99)]
/-- M.shift21 -/
def kc_329 : jC := (270, 2, [.inl (.ref 66), .inr (0, (-2147483648), 2147483647), .inr (0, (-2147483648), 2147483647), .inr (0, (-2147483648), 2147483647), .inr (0, (-2147483648), 2147483647), .inr (0, 21, 21)], [], [(99, 9999), (100, 9999)], [(some (0, (-13), 21), [])])
def kl_329 : List jA := [((270, 113), [(6, 0, 24)], [], [], [], true, 0), ((270, 150), [(6, 0, 24)], [], [], [], true, 0)]
def ks_329 : List ((Nat × Nat) × Nat) := [((215, 22), 99)]
/-- M.shift22 -/
def kc_330 : jC := (270, 2, [.inl (.ref 66), .inr (0, (-2147483648), 2147483647), .inr (0, (-2147483648), 2147483647), .inr (0, (-2147483648), 2147483647), .inr (0, (-2147483648), 2147483647), .inr (0, 22, 22)], [], [(99, 9999), (100, 9999)], [(some (0, (-13), 22), [])])
def kl_330 : List jA := [((270, 113), [(6, 0, 24)], [], [], [], true, 0), ((270, 150), [(6, 0, 24)], [], [], [], true, 0)]
def ks_330 : List ((Nat × Nat) × Nat) := [((215, 22), 99)]
/-- M.shift23 -/
def kc_331 : jC := (270, 2, [.inl (.ref 66), .inr (0, (-2147483648), 2147483647), .inr (0, (-2147483648), 2147483647), .inr (0, (-2147483648), 2147483647), .inr (0, (-2147483648), 2147483647), .inr (0, 23, 23)], [], [(99, 9999), (100, 9999)], [(some (0, (-13), 23), [])])
def kl_331 : List jA := [((270, 113), [(6, 0, 24)], [], [], [], true, 0), ((270, 150), [(6, 0, 24)], [], [], [], true, 0)]
def ks_331 : List ((Nat × Nat) × Nat) := [((215, 22), 99)]
/-- M.shift24 -/
def kc_332 : jC := (270, 2, [.inl (.ref 66), .inr (0, (-2147483648), 2147483647), .inr (0, (-2147483648), 2147483647), .inr (0, (-2147483648), 2147483647), .inr (0, (-2147483648), 2147483647), .inr (0, 24, 24)], [], [(99, 9999), (100, 9999)], [(some (0, (-13), 24), [])])
def kl_332 : List jA := [((270, 113), [(6, 0, 24)], [], [], [], true, 0), ((270, 150), [(6, 0, 24)], [], [], [], true, 0)]
def ks_332 : List ((Nat × Nat) × Nat) := [((215, 22), 99)]
/-- M.shift25 -/
def kc_333 : jC := (270, 2, [.inl (.ref 66), .inr (0, (-2147483648), 2147483647), .inr (0, (-2147483648), 2147483647), .inr (0, (-2147483648), 2147483647), .inr (0, (-2147483648), 2147483647), .inr (0, 25, 25)], [], [(99, 9999), (100, 9999)], [(some (0, (-13), 25), [])])
def kl_333 : List jA := [((270, 113), [(6, 0, 28)], [], [], [], true, 0), ((270, 150), [(6, 0, 28)], [], [], [], true, 0)]
def ks_333 : List ((Nat × Nat) × Nat) := [((215, 22), 99)]
/-- M.shift26 -/
def kc_334 : jC := (270, 2, [.inl (.ref 66), .inr (0, (-2147483648), 2147483647), .inr (0, (-2147483648), 2147483647), .inr (0, (-2147483648), 2147483647), .inr (0, (-2147483648), 2147483647), .inr (0, 26, 26)], [], [(99, 9999), (100, 9999)], [(some (0, (-13), 26), [])])
def kl_334 : List jA := [((270, 113), [(6, 0, 28)], [], [], [], true, 0), ((270, 150), [(6, 0, 28)], [], [], [], true, 0)]
def ks_334 : List ((Nat × Nat) × Nat) := [((215, 22), 99)]
/-- M.shift27 -/
def kc_335 : jC := (270, 2, [.inl (.ref 66), .inr (0, (-2147483648), 2147483647), .inr (0, (-2147483648), 2147483647), .inr (0, (-2147483648), 2147483647), .inr (0, (-2147483648), 2147483647), .inr (0, 27, 27)], [], [(99, 9999), (100, 9999)], [(some (0, (-13), 27), [])])
def kl_335 : List jA := [((270, 113), [(6, 0, 28)], [], [], [], true, 0), ((270, 150), [(6, 0, 28)], [], [], [], true, 0)]
def ks_335 : List ((Nat × Nat) × Nat) := [((215, 22), 99)]
/-- M.shift28 -/
def kc_336 : jC := (270, 2, [.inl (.ref 66), .inr (0, (-2147483648), 2147483647), .inr (0, (-2147483648), 2147483647), .inr (0, (-2147483648), 2147483647), .inr (0, (-2147483648), 2147483647), .inr (0, 28, 28)], [], [(99, 9999), (100, 9999)], [(some (0, (-13), 28), [])])
def kl_336 : List jA := [((270, 113), [(6, 0, 28)], [], [], [], true, 0), ((270, 150), [(6, 0, 28)], [], [], [], true, 0)]
def ks_336 : List ((Nat × Nat) × Nat) := [((215, 22), 99)]
/-- M.shift29 -/
def kc_337 : jC := (270, 2, [.inl (.ref 66), .inr (0, (-2147483648), 2147483647), .inr (0, (-2147483648), 2147483647), .inr (0, (-2147483648), 2147483647), .inr (0, (-2147483648), 2147483647), .inr (0, 29, 29)], [], [(99, 9999), (100, 9999)], [(some (0, (-13), 29), [])])
def kl_337 : List jA := [((270, 113), [(6, 0, 29)], [], [], [], true, 0), ((270, 150), [(6, 0, 29)], [], [], [], true, 0)]
def ks_337 : List ((Nat × Nat) × Nat) := [((215, 22), 99)]
/-- M.shift30 -/
def kc_338 : jC := (270, 2, [.inl (.ref 66), .inr (0, (-2147483648), 2147483647), .inr (0, (-2147483648), 2147483647), .inr (0, (-2147483648), 2147483647), .inr (0, (-2147483648), 2147483647), .inr (0, 30, 30)], [], [(99, 9999), (100, 9999)], [(some (0, (-13), 30), [])])
def kl_338 : List jA := [((270, 113), [(6, 0, 30)], [], [], [], true, 0), ((270, 150), [(6, 0, 30)], [], [], [], true, 0)]
def ks_338 : List ((Nat × Nat) × Nat) := [((215, 22), 99)]
/-- M.shift31 -/
def kc_339 : jC := (270, 2, [.inl (.ref 66), .inr (0, (-2147483648), 2147483647), .inr (0, (-2147483648), 2147483647), .inr (0, (-2147483648), 2147483647), .inr (0, (-2147483648), 2147483647), .inr (0, 31, 31)], [], [(99, 9999), (100, 9999)], [(some (0, (-13), 31), [])])
def kl_339 : List jA := [((270, 113), [(6, 0, 31)], [], [], [], true, 0), ((270, 150), [(6, 0, 31)], [], [], [], true, 0)]
def ks_339 : List ((Nat × Nat) × Nat) := [((215, 22), 99)]
/-- M.shift32 -/
def kc_340 : jC := (270, 2, [.inl (.ref 66), .inr (0, (-2147483648), 2147483647), .inr (0, (-2147483648), 2147483647), .inr (0, (-2147483648), 2147483647), .inr (0, (-2147483648), 2147483647), .inr (0, 32, 32)], [], [(99, 9999), (100, 9999)], [(some (0, (-13), 32), [])])
def kl_340 : List jA := [((270, 113), [(6, 0, 35)], [], [], [], true, 0), ((270, 150), [(6, 0, 35)], [], [], [], true, 0)]
def ks_340 : List ((Nat × Nat) × Nat) := [((215, 22), 99)]
/-- M.shift33 -/
def kc_341 : jC := (270, 2, [.inl (.ref 66), .inr (0, (-2147483648), 2147483647), .inr (0, (-2147483648), 2147483647), .inr (0, (-2147483648), 2147483647), .inr (0, (-2147483648), 2147483647), .inr (0, 33, 33)], [], [(99, 9999), (100, 9999)], [(some (0, (-13), 33), [])])
def kl_341 : List jA := [((270, 113), [(6, 0, 35)], [], [], [], true, 0), ((270, 150), [(6, 0, 35)], [], [], [], true, 0)]
def ks_341 : List ((Nat × Nat) × Nat) := [((215, 22), 99)]
/-- M.shift34 -/
def kc_342 : jC := (270, 2, [.inl (.ref 66), .inr (0, (-2147483648), 2147483647), .inr (0, (-2147483648), 2147483647), .inr (0, (-2147483648), 2147483647), .inr (0, (-2147483648), 2147483647), .inr (0, 34, 34)], [], [(99, 9999), (100, 9999)], [(some (0, (-13), 34), [])])
def kl_342 : List jA := [((270, 113), [(6, 0, 35)], [], [], [], true, 0), ((270, 150), [(6, 0, 35)], [], [], [], true, 0)]
def ks_342 : List ((Nat × Nat) × Nat) := [((215, 22), 99)]
/-- M.shift35 -/
def kc_343 : jC := (270, 2, [.inl (.ref 66), .inr (0, (-2147483648), 2147483647), .inr (0, (-2147483648), 2147483647), .inr (0, (-2147483648), 2147483647), .inr (0, (-2147483648), 2147483647), .inr (0, 35, 35)], [], [(99, 9999), (100, 9999)], [(some (0, (-13), 35), [])])
def kl_343 : List jA := [((270, 113), [(6, 0, 35)], [], [], [], true, 0), ((270, 150), [(6, 0, 35)], [], [], [], true, 0)]
def ks_343 : List ((Nat × Nat) × Nat) := [((215, 22), 99)]
/-- M.shift36 -/
def kc_344 : jC := (270, 2, [.inl (.ref 66), .inr (0, (-2147483648), 2147483647), .inr (0, (-2147483648), 2147483647), .inr (0, (-2147483648), 2147483647), .inr (0, (-2147483648), 2147483647), .inr (0, 36, 36)], [], [(99, 9999), (100, 9999)], [(some (0, (-13), 36), [])])
def kl_344 : List jA := [((270, 113), [(6, 0, 36)], [], [], [], true, 0), ((270, 150), [(6, 0, 36)], [], [], [], true, 0)]
def ks_344 : List ((Nat × Nat) × Nat) := [((215, 22), 99)]
/-- M.shift37 -/
def kc_345 : jC := (270, 2, [.inl (.ref 66), .inr (0, (-2147483648), 2147483647), .inr (0, (-2147483648), 2147483647), .inr (0, (-2147483648), 2147483647), .inr (0, (-2147483648), 2147483647), .inr (0, 37, 37)], [], [(99, 9999), (100, 9999)], [(some (0, (-13), 37), [])])
def kl_345 : List jA := [((270, 113), [(6, 0, 40)], [], [], [], true, 0), ((270, 150), [(6, 0, 40)], [], [], [], true, 0)]
def ks_345 : List ((Nat × Nat) × Nat) := [((215, 22), 99)]
/-- M.shift38 -/
def kc_346 : jC := (270, 2, [.inl (.ref 66), .inr (0, (-2147483648), 2147483647), .inr (0, (-2147483648), 2147483647), .inr (0, (-2147483648), 2147483647), .inr (0, (-2147483648), 2147483647), .inr (0, 38, 38)], [], [(99, 9999), (100, 9999)], [(some (0, (-13), 38), [])])
def kl_346 : List jA := [((270, 113), [(6, 0, 40)], [], [], [], true, 0), ((270, 150), [(6, 0, 40)], [], [], [], true, 0)]
def ks_346 : List ((Nat × Nat) × Nat) := [((215, 22), 99)]
/-- M.shift39 -/
def kc_347 : jC := (270, 2, [.inl (.ref 66), .inr (0, (-2147483648), 2147483647), .inr (0, (-2147483648), 2147483647), .inr (0, (-2147483648), 2147483647), .inr (0, (-2147483648), 2147483647), .inr (0, 39, 39)], [], [(99, 9999), (100, 9999)], [(some (0, (-13), 39), [])])
def kl_347 : List jA := [((270, 113), [(6, 0, 40)], [], [], [], true, 0), ((270, 150), [(6, 0, 40)], [], [], [], true, 0)]
def ks_347 : List ((Nat × Nat) × Nat) := [((215, 22), 99)]
/-- M.shift40 -/
def kc_348 : jC := (270, 2, [.inl (.ref 66), .inr (0, (-2147483648), 2147483647), .inr (0, (-2147483648), 2147483647), .inr (0, (-2147483648), 2147483647), .inr (0, (-2147483648), 2147483647), .inr (0, 40, 40)], [], [(99, 9999), (100, 9999)], [(some (0, (-13), 40), [])])
def kl_348 : List jA := [((270, 113), [(6, 0, 40)], [], [], [], true, 0), ((270, 150), [(6, 0, 40)], [], [], [], true, 0)]
def ks_348 : List ((Nat × Nat) × Nat) := [((215, 22), 99)]
/-- M.shift41 -/
def kc_349 : jC := (270, 2, [.inl (.ref 66), .inr (0, (-2147483648), 2147483647), .inr (0, (-2147483648), 2147483647), .inr (0, (-2147483648), 2147483647), .inr (0, (-2147483648), 2147483647), .inr (0, 41, 41)], [], [(99, 9999), (100, 9999)], [(some (0, (-13), 41), [])])
def kl_349 : List jA := [((270, 113), [(6, 0, 41)], [], [], [], true, 0), ((270, 150), [(6, 0, 41)], [], [], [], true, 0)]
def ks_349 : List ((Nat × Nat) × Nat) := [((215, 22), 99)]
/-- M.shift42 -/
def kc_350 : jC := (270, 2, [.inl (.ref 66), .inr (0, (-2147483648), 2147483647), .inr (0, (-2147483648), 2147483647), .inr (0, (-2147483648), 2147483647), .inr (0, (-2147483648), 2147483647), .inr (0, 42, 42)], [], [(99, 9999), (100, 9999)], [(some (0, (-13), 42), [])])
def kl_350 : List jA := [((270, 113), [(6, 0, 48)], [], [], [], true, 0), ((270, 150), [(6, 0, 48)], [], [], [], true, 0)]
def ks_350 : List ((Nat × Nat) × Nat) := [((215, 22), 99)]
/-- M.shift43 -/
def kc_351 : jC := (270, 2, [.inl (.ref 66), .inr (0, (-2147483648), 2147483647), .inr (0, (-2147483648), 2147483647), .inr (0, (-2147483648), 2147483647), .inr (0, (-2147483648), 2147483647), .inr (0, 43, 43)], [], [(99, 9999), (100, 9999)], [(some (0, (-13), 43), [])])
def kl_351 : List jA := [((270, 113), [(6, 0, 48)], [], [], [], true, 0), ((270, 150), [(6, 0, 48)], [], [], [], true, 0)]
def ks_351 : List ((Nat × Nat) × Nat) := [((215, 22), 99)]
/-- M.shift44 -/
def kc_352 : jC := (270, 2, [.inl (.ref 66), .inr (0, (-2147483648), 2147483647), .inr (0, (-2147483648), 2147483647), .inr (0, (-2147483648), 2147483647), .inr (0, (-2147483648), 2147483647), .inr (0, 44, 44)], [], [(99, 9999), (100, 9999)], [(some (0, (-13), 44), [])])
def kl_352 : List jA := [((270, 113), [(6, 0, 48)], [], [], [], true, 0), ((270, 150), [(6, 0, 48)], [], [], [], true, 0)]
def ks_352 : List ((Nat × Nat) × Nat) := [((215, 22), 99)]
/-- M.shift45 -/
def kc_353 : jC := (270, 2, [.inl (.ref 66), .inr (0, (-2147483648), 2147483647), .inr (0, (-2147483648), 2147483647), .inr (0, (-2147483648), 2147483647), .inr (0, (-2147483648), 2147483647), .inr (0, 45, 45)], [], [(99, 9999), (100, 9999)], [(some (0, (-13), 45), [])])
def kl_353 : List jA := [((270, 113), [(6, 0, 48)], [], [], [], true, 0), ((270, 150), [(6, 0, 48)], [], [], [], true, 0)]
def ks_353 : List ((Nat × Nat) × Nat) := [((215, 22), 99)]
/-- M.shift46 -/
def kc_354 : jC := (270, 2, [.inl (.ref 66), .inr (0, (-2147483648), 2147483647), .inr (0, (-2147483648), 2147483647), .inr (0, (-2147483648), 2147483647), .inr (0, (-2147483648), 2147483647), .inr (0, 46, 46)], [], [(99, 9999), (100, 9999)], [(some (0, (-13), 46), [])])
def kl_354 : List jA := [((270, 113), [(6, 0, 48)], [], [], [], true, 0), ((270, 150), [(6, 0, 48)], [], [], [], true, 0)]
def ks_354 : List ((Nat × Nat) × Nat) := [((215, 22), 99)]
/-- M.shift47 -/
def kc_355 : jC := (270, 2, [.inl (.ref 66), .inr (0, (-2147483648), 2147483647), .inr (0, (-2147483648), 2147483647), .inr (0, (-2147483648), 2147483647), .inr (0, (-2147483648), 2147483647), .inr (0, 47, 47)], [], [(99, 9999), (100, 9999)], [(some (0, (-13), 47), [])])
def kl_355 : List jA := [((270, 113), [(6, 0, 48)], [], [], [], true, 0), ((270, 150), [(6, 0, 48)], [], [], [], true, 0)]
def ks_355 : List ((Nat × Nat) × Nat) := [((215, 22), 99)]
/-- M.shift48 -/
def kc_356 : jC := (270, 2, [.inl (.ref 66), .inr (0, (-2147483648), 2147483647), .inr (0, (-2147483648), 2147483647), .inr (0, (-2147483648), 2147483647), .inr (0, (-2147483648), 2147483647), .inr (0, 48, 48)], [], [(99, 9999), (100, 9999)], [(some (0, (-13), 48), [])])
def kl_356 : List jA := [((270, 113), [(6, 0, 48)], [], [], [], true, 0), ((270, 150), [(6, 0, 48)], [], [], [], true, 0)]
def ks_356 : List ((Nat × Nat) × Nat) := [((215, 22), 99)]
/-- M.shift49 -/
def kc_357 : jC := (270, 2, [.inl (.ref 66), .inr (0, (-2147483648), 2147483647), .inr (0, (-2147483648), 2147483647), .inr (0, (-2147483648), 2147483647), .inr (0, (-2147483648), 2147483647), .inr (0, 49, 49)], [], [(99, 9999), (100, 9999)], [(some (0, (-13), 49), [])])
def kl_357 : List jA := [((270, 113), [(6, 0, 49)], [], [], [], true, 0), ((270, 150), [(6, 0, 49)], [], [], [], true, 0)]
def ks_357 : List ((Nat × Nat) × Nat) := [((215, 22), 99)]
/-- M.shift50 -/
def kc_358 : jC := (270, 2, [.inl (.ref 66), .inr (0, (-2147483648), 2147483647), .inr (0, (-2147483648), 2147483647), .inr (0, (-2147483648), 2147483647), .inr (0, (-2147483648), 2147483647), .inr (0, 50, 50)], [], [(99, 9999), (100, 9999)], [(some (0, (-13), 50), [])])
def kl_358 : List jA := [((270, 113), [(6, 0, 50)], [], [], [], true, 0), ((270, 150), [(6, 0, 50)], [], [], [], true, 0)]
def ks_358 : List ((Nat × Nat) × Nat) := [((215, 22), 99)]
/-- M.shift51 -/
def kc_359 : jC := (270, 2, [.inl (.ref 66), .inr (0, (-2147483648), 2147483647), .inr (0, (-2147483648), 2147483647), .inr (0, (-2147483648), 2147483647), .inr (0, (-2147483648), 2147483647), .inr (0, 51, 51)], [], [(99, 9999), (100, 9999)], [(some (0, (-13), 51), [])])
def kl_359 : List jA := [((270, 113), [(6, 0, 58)], [], [], [], true, 0), ((270, 150), [(6, 0, 58)], [], [], [], true, 0)]
def ks_359 : List ((Nat × Nat) × Nat) := [((215, 22), 99)]
/-- M.shift52 -/
def kc_360 : jC := (270, 2, [.inl (.ref 66), .inr (0, (-2147483648), 2147483647), .inr (0, (-2147483648), 2147483647), .inr (0, (-2147483648), 2147483647), .inr (0, (-2147483648), 2147483647), .inr (0, 52, 52)], [], [(99, 9999), (100, 9999)], [(some (0, (-13), 52), [])])
def kl_360 : List jA := [((270, 113), [(6, 0, 58)], [], [], [], true, 0), ((270, 150), [(6, 0, 58)], [], [], [], true, 0)]
def ks_360 : List ((Nat × Nat) × Nat) := [((215, 22), 99)]
/-- M.shift53 -/
def kc_361 : jC := (270, 2, [.inl (.ref 66), .inr (0, (-2147483648), 2147483647), .inr (0, (-2147483648), 2147483647), .inr (0, (-2147483648), 2147483647), .inr (0, (-2147483648), 2147483647), .inr (0, 53, 53)], [], [(99, 9999), (100, 9999)], [(some (0, (-13), 53), [])])
def kl_361 : List jA := [((270, 113), [(6, 0, 58)], [], [], [], true, 0), ((270, 150), [(6, 0, 58)], [], [], [], true, 0)]
def ks_361 : List ((Nat × Nat) × Nat) := [((215, 22), 99)]
/-- M.shift54 -/
def kc_362 : jC := (270, 2, [.inl (.ref 66), .inr (0, (-2147483648), 2147483647), .inr (0, (-2147483648), 2147483647), .inr (0, (-2147483648), 2147483647), .inr (0, (-2147483648), 2147483647), .inr (0, 54, 54)], [], [(99, 9999), (100, 9999)], [(some (0, (-13), 54), [])])
def kl_362 : List jA := [((270, 113), [(6, 0, 58)], [], [], [], true, 0), ((270, 150), [(6, 0, 58)], [], [], [], true, 0)]
def ks_362 : List ((Nat × Nat) × Nat) := [((215, 22), 99)]
/-- M.shift55 -/
def kc_363 : jC := (270, 2, [.inl (.ref 66), .inr (0, (-2147483648), 2147483647), .inr (0, (-2147483648), 2147483647), .inr (0, (-2147483648), 2147483647), .inr (0, (-2147483648), 2147483647), .inr (0, 55, 55)], [], [(99, 9999), (100, 9999)], [(some (0, (-13), 55), [])])
def kl_363 : List jA := [((270, 113), [(6, 0, 58)], [], [], [], true, 0), ((270, 150), [(6, 0, 58)], [], [], [], true, 0)]
def ks_363 : List ((Nat × Nat) × Nat) := [((215, 22), 99)]
/-- M.shift56 -/
def kc_364 : jC := (270, 2, [.inl (.ref 66), .inr (0, (-2147483648), 2147483647), .inr (0, (-2147483648), 2147483647), .inr (0, (-2147483648), 2147483647), .inr (0, (-2147483648), 2147483647), .inr (0, 56, 56)], [], [(99, 9999), (100, 9999)], [(some (0, (-13), 56), [])])
def kl_364 : List jA := [((270, 113), [(6, 0, 58)], [], [], [], true, 0), ((270, 150), [(6, 0, 58)], [], [], [], true, 0)]
def ks_364 : List ((Nat × Nat) × Nat) := [((215, 22), 99)]
/-- M.shift57 -/
def kc_365 : jC := (270, 2, [.inl (.ref 66), .inr (0, (-2147483648), 2147483647), .inr (0, (-2147483648), 2147483647), .inr (0, (-2147483648), 2147483647), .inr (0, (-2147483648), 2147483647), .inr (0, 57, 57)], [], [(99, 9999), (100, 9999)], [(some (0, (-13), 57), [])])
def kl_365 : List jA := [((270, 113), [(6, 0, 58)], [], [], [], true, 0), ((270, 150), [(6, 0, 58)], [], [], [], true, 0)]
def ks_365 : List ((Nat × Nat) × Nat) := [((215, 22), 99)]
/-- M.shift58 -/
def kc_366 : jC := (270, 2, [.inl (.ref 66), .inr (0, (-2147483648), 2147483647), .inr (0, (-2147483648), 2147483647), .inr (0, (-2147483648), 2147483647), .inr (0, (-2147483648), 2147483647), .inr (0, 58, 58)], [], [(99, 9999), (100, 9999)], [(some (0, (-13), 58), [])])
def kl_366 : List jA := [((270, 113), [(6, 0, 58)], [], [], [], true, 0), ((270, 150), [(6, 0, 58)], [], [], [], true, 0)]
def ks_366 : List ((Nat × Nat) × Nat) := [((215, 22), 99)]
/-- M.shift59 -/
def kc_367 : jC := (270, 2, [.inl (.ref 66), .inr (0, (-2147483648), 2147483647), .inr (0, (-2147483648), 2147483647), .inr (0, (-2147483648), 2147483647), .inr (0, (-2147483648), 2147483647), .inr (0, 59, 59)], [], [(99, 9999), (100, 9999)], [(some (0, (-13), 59), [])])
def kl_367 : List jA := [((270, 113), [(6, 0, 59)], [], [], [], true, 0), ((270, 150), [(6, 0, 59)], [], [], [], true, 0)]
def ks_367 : List ((Nat × Nat) × Nat) := [((215, 22), 99)]
/-- M.shift60 -/
def kc_368 : jC := (270, 2, [.inl (.ref 66), .inr (0, (-2147483648), 2147483647), .inr (0, (-2147483648), 2147483647), .inr (0, (-2147483648), 2147483647), .inr (0, (-2147483648), 2147483647), .inr (0, 60, 60)], [], [(99, 9999), (100, 9999)], [(some (0, (-13), 60), [])])
def kl_368 : List jA := [((270, 113), [(6, 0, 60)], [], [], [], true, 0), ((270, 150), [(6, 0, 60)], [], [], [], true, 0)]
def ks_368 : List ((Nat × Nat) × Nat) := [((215, 22), 99)]
/-- M.shift61 -/
def kc_369 : jC := (270, 2, [.inl (.ref 66), .inr (0, (-2147483648), 2147483647), .inr (0, (-2147483648), 2147483647), .inr (0, (-2147483648), 2147483647), .inr (0, (-2147483648), 2147483647), .inr (0, 61, 2147483647)], [], [], [(some (0, (-13), (-1)), [])])
def kl_369 : List jA := []
def ks_369 : List ((Nat × Nat) × Nat) := [((215, 22), 99)]
/-- X.taken -/
def kc_370 : jC := (170, 1, [.inl (.ref 0), .inr (0, (-2147483648), 2147483647), .inr (0, (-2147483648), 2147483647)], [], [], [(some (0, (-12), 7), [])])
def kl_370 : List jA := [((109, 4), [(2, 0, 7), (3, 0, 8)], [], [], [], true, 1)]
def ks_370 : List ((Nat × Nat) × Nat) := [((114, 0), 1), ((115, 0), 1), ((215, 22), 99)]
/-- M.taken -/
def kc_371 : jC := (271, 2, [.inl (.ref 66), .inr (0, (-2147483648), 2147483647), .inr (0, (-2147483648), 2147483647)], [], [], [(some (0, (-12), 7), [])])
def kl_371 : List jA := [((271, 58), [(3, 0, 7)], [], [], [], false, 0)]
def ks_371 : List ((Nat × Nat) × Nat) := [((215, 22), 99), ((257, 0), 1), ((258, 0), 1), ((259, 0), 1), ((260, 0), 1)]
/-- X.count -/
def kc_372 : jC := (171, 1, [.inl (.ref 0), .inr (0, (-2147483648), 2147483647)], [], [], [(some (0, (-2147483648), 2147483647), [])])
def kl_372 : List jA := [((13, 4), [(1, (-2147483648), 2147483647), (2, 0, 7)], [], [], [], true, 1)]
def ks_372 : List ((Nat × Nat) × Nat) := [((114, 0), 1), ((115, 0), 1), ((215, 22), 99)]
/-- M.count -/
def kc_373 : jC := (272, 1, [.inl (.ref 66), .inr (0, (-2147483648), 2147483647)], [], [], [(some (0, (-2147483648), 2147483647), [])])
def kl_373 : List jA := [((251, 4), [(1, (-2147483648), 2147483647), (2, 0, 7)], [], [], [], true, 1)]
def ks_373 : List ((Nat × Nat) × Nat) := [((215, 22), 99), ((257, 0), 1), ((258, 0), 1), ((259, 0), 1), ((260, 0), 1)]
end
section
/-! runs of the pure machine: what holds at their end, if they end -/
def hKd (g : jG1) (c : xE) : Prop := c.1 = g.1 ∧ match g.2 with
  | .inl fs => c.2.length = fs.length ∧ ∀ (k : Nat) (b : Value ⊕ (Int × Int)), fs[k]? = some b → ∃ v, c.2[k]? = some v ∧ (match b with | .inl w => v = w | .inr _ => jk v = 0)
  | .inr q => c.2.length = q.1 ∧ ∀ v ∈ c.2, jk v = if g.1 = 102 then 1 else 0
/-- the cells are of their kinds -/
def hW (p : xH) : Prop := ∀ r g, jgc jGG r = some g → ∃ c, p[r]? = some c ∧ hKd g c
theorem hW_of {p : xH} (h : GH jGG p) : hW p := by
  intro r g hg
  obtain ⟨c, h1, h2, h3⟩ := h r g hg
  refine ⟨c, h1, h2, ?_⟩
  obtain ⟨t, g2⟩ := g
  cases g2 with
  | inl fs =>
    obtain ⟨h4, h5⟩ := h3
    refine ⟨h4, fun k b hb => ?_⟩
    obtain ⟨v, e1, e2⟩ := h5 k b hb
    refine ⟨v, e1, ?_⟩
    cases b with
    | inl w => exact e2
    | inr b => exact e2.1
  | inr b => exact ⟨h3.1, fun v hv => (h3.2 v hv).1⟩
def hgl (g : jG1) : Nat := match g.2 with
  | .inl fs => fs.length
  | .inr b => b.1
/-- how long a cell is -/
def hL (r : Nat) : Nat := match jgc jGG r with
  | some g => hgl g
  | none => 0
/-- what may be written at a place: its kind -/
def hT (r k : Nat) : Option Nat := match jgc jGG r with
  | some (_, .inl fs) => (match fs[k]? with | some (.inr _) => some 0 | _ => none)
  | some (t, .inr _) => some (if t = 102 then 1 else 0)
  | none => none
def rV (p : xH) (r k : Nat) : Value := match p[r]? with
  | some c => c.2.getD k .null
  | none => .null
def rI (p : xH) (r k : Nat) : Int32 := match rV p r k with
  | .int x => x
  | _ => 0
def rJ (p : xH) (r k : Nat) : Int64 := match rV p r k with
  | .long x => x
  | _ => 0
def wV (p : xH) (r k : Nat) (v : Value) : xH := match p[r]? with
  | some c => p.set r (c.1, c.2.set k v)
  | none => p
theorem hW_cell {p : xH} {r : Nat} {g : jG1} (h : hW p) (hg : jgc jGG r = some g) : ∃ vs, p[r]? = some (g.1, vs) ∧ vs.length = hgl g ∧ hKd g (g.1, vs) := by
  obtain ⟨⟨t, vs⟩, h1, h2, h3⟩ := h r g hg
  have h2 : t = g.1 := h2
  subst h2
  refine ⟨vs, h1, ?_, rfl, h3⟩
  unfold hgl
  obtain ⟨t, g2⟩ := g
  cases g2 with
  | inl fs => exact h3.1
  | inr b => exact h3.1
theorem hL_cell {p : xH} {r k : Nat} (h : hW p) (hk : k < hL r) : ∃ g vs, jgc jGG r = some g ∧ p[r]? = some (g.1, vs) ∧ k < vs.length := by
  unfold hL at hk
  cases hg : jgc jGG r with
  | none => rw [hg] at hk; exact absurd hk (Nat.not_lt_zero _)
  | some g =>
    rw [hg] at hk
    obtain ⟨vs, h1, h2, -⟩ := hW_cell h hg
    exact ⟨g, vs, rfl, h1, by rw [h2]; exact hk⟩
theorem rV_ne {p : xH} {r k r' k' : Nat} {v : Value} (h : r' = r → k' ≠ k) : rV (wV p r k v) r' k' = rV p r' k' := by
  unfold wV
  cases hc : p[r]? with
  | none => rfl
  | some c =>
    dsimp only
    unfold rV
    rw [List.getElem?_set]
    by_cases hr : r = r'
    · subst hr
      rw [if_pos rfl, if_pos (List.getElem?_eq_some_iff.mp hc).1, hc]
      dsimp only
      rw [List.getD_eq_getElem?_getD, List.getD_eq_getElem?_getD, List.getElem?_set, if_neg (fun e => h rfl e.symm)]
    · rw [if_neg hr]
theorem rV_eq {p : xH} {r k : Nat} {v : Value} (h : hW p) (hk : k < hL r) : rV (wV p r k v) r k = v := by
  obtain ⟨g, vs, hg, hc, hl⟩ := hL_cell h hk
  unfold wV
  rw [hc]
  dsimp only
  unfold rV
  rw [List.getElem?_set, if_pos rfl, if_pos (List.getElem?_eq_some_iff.mp hc).1]
  dsimp only
  rw [List.getD_eq_getElem?_getD, List.getElem?_set, if_pos rfl, if_pos hl]
  rfl
theorem rI_ne {p : xH} {r k r' k' : Nat} {v : Value} (h : r' = r → k' ≠ k) : rI (wV p r k v) r' k' = rI p r' k' := by
  unfold rI; rw [rV_ne h]
theorem rJ_ne {p : xH} {r k r' k' : Nat} {v : Value} (h : r' = r → k' ≠ k) : rJ (wV p r k v) r' k' = rJ p r' k' := by
  unfold rJ; rw [rV_ne h]
theorem rI_eq {p : xH} {r k : Nat} {x : Int32} (h : hW p) (hk : k < hL r) : rI (wV p r k (.int x)) r k = x := by
  unfold rI; rw [rV_eq h hk]
theorem rJ_eq {p : xH} {r k : Nat} {x : Int64} (h : hW p) (hk : k < hL r) : rJ (wV p r k (.long x)) r k = x := by
  unfold rJ; rw [rV_eq h hk]
theorem rI_o {p : xH} {r k r' k' : Nat} {v : Value} (h : r' ≠ r) : rI (wV p r k v) r' k' = rI p r' k' := rI_ne (fun e => absurd e h)
theorem rJ_o {p : xH} {r k r' k' : Nat} {v : Value} (h : r' ≠ r) : rJ (wV p r k v) r' k' = rJ p r' k' := rJ_ne (fun e => absurd e h)
theorem hW_wV {p : xH} {r k : Nat} {v : Value} (h : hW p) (hk : hT r k = some (jk v)) : hW (wV p r k v) := by
  intro r' g hg
  by_cases hr : r = r'
  · subst hr
    obtain ⟨vs, hc, hl, hd⟩ := hW_cell h hg
    unfold wV
    rw [hc]
    refine ⟨(g.1, vs.set k v), by rw [List.getElem?_set, if_pos rfl, if_pos (List.getElem?_eq_some_iff.mp hc).1], rfl, ?_⟩
    unfold hT at hk
    rw [hg] at hk
    obtain ⟨t, g2⟩ := g
    cases g2 with
    | inl fs =>
      obtain ⟨-, a2, a3⟩ := hd
      refine ⟨by rw [List.length_set]; exact a2, fun k' b hb => ?_⟩
      obtain ⟨u, u1, u2⟩ := a3 k' b hb
      by_cases hkk : k = k'
      · subst hkk
        dsimp only at hk
        rw [hb] at hk
        cases b with
        | inl w => cases hk
        | inr b =>
          refine ⟨v, by rw [List.getElem?_set, if_pos rfl, if_pos (List.getElem?_eq_some_iff.mp u1).1], ?_⟩
          exact (Option.some.inj hk).symm
      · exact ⟨u, by rw [List.getElem?_set, if_neg hkk]; exact u1, u2⟩
    | inr b =>
      obtain ⟨-, a2, a3⟩ := hd
      refine ⟨by rw [List.length_set]; exact a2, fun u hu => ?_⟩
      rcases List.mem_or_eq_of_mem_set hu with hu | rfl
      · exact a3 u hu
      · exact (Option.some.inj hk).symm
  · obtain ⟨c, hc, hd⟩ := h r' g hg
    refine ⟨c, ?_, hd⟩
    unfold wV
    cases hc2 : p[r]? with
    | none => exact hc
    | some c2 => dsimp only; rw [List.getElem?_set, if_neg hr]; exact hc
theorem hW_fld {p : xH} {r ci k : Nat} {fs : List (Value ⊕ (Int × Int))} {b : Int × Int} (h : hW p) (hG : jgc jGG r = some (ci, .inl fs)) (hf : fs[k]? = some (.inr b)) : ∃ vs, p[r]? = some (ci, vs) ∧ vs[k]? = some (.int (rI p r k)) := by
  obtain ⟨vs, hc, hl, -, a2, a3⟩ := hW_cell h hG
  obtain ⟨u, u1, u2⟩ := a3 k _ hf
  have u1 : vs[k]? = some u := u1
  refine ⟨vs, hc, ?_⟩
  have e : rV p r k = u := by
    unfold rV
    rw [hc]
    dsimp only
    rw [List.getD_eq_getElem?_getD, u1]
    rfl
  have u2 : jk u = 0 := u2
  unfold rI
  rw [e, u1]
  cases u <;> first | rfl | (cases u2; done)
theorem hW_ref {p : xH} {r ci k : Nat} {fs : List (Value ⊕ (Int × Int))} {w : Value} (h : hW p) (hG : jgc jGG r = some (ci, .inl fs)) (hf : fs[k]? = some (.inl w)) : ∃ vs, p[r]? = some (ci, vs) ∧ vs[k]? = some w := by
  obtain ⟨vs, hc, hl, -, a2, a3⟩ := hW_cell h hG
  obtain ⟨u, u1, u2⟩ := a3 k _ hf
  have u1 : vs[k]? = some u := u1
  have u2 : u = w := u2
  exact ⟨vs, hc, by rw [u1, u2]⟩
/-- a run from here, if it ends, ends so -/
def hP (ro : List (List Int32)) (n d : Nat) (q : xQ) (pc : Nat) (ls : xL) (st : List Value) (p : xH) (Q : Option Value → xH → Prop) : Prop := hW p → ∀ r p', ev ro n d q pc ls st p = some (r, p') → hW p' ∧ Q r p'
theorem ev_hx {ro : List (List Int32)} {n d : Nat} {q : xQ} {pc : Nat} {ls : xL} {st : List Value} {h : xH} {i : Instr} {x : Option Value × xH} (hi : xcg q.2.2.2.2 pc = some i) (h0 : xs1 q.1 q.2.1 i ls st = none) (h1 : xbr i pc st = none) (h3 : xrt q.2.2.2.1 i st = none) (h4 : xob q.1 i st = none) (h5 : xmm q.1 i st = none) (h6 : xay q.1 i st h = none) (h7 : xca q.1 i st h = none) (e : ev ro (n + 1) d q pc ls st h = some x) :
    ∃ st' h', xho ro q.1 q.2.2.1 i st h = some (st', h') ∧ ev ro n d q (pc + xil i) ls st' h' = some x := by
  rw [ev, hi] at e
  dsimp only at e
  rw [h0] at e
  dsimp only at e
  rw [h1] at e
  dsimp only at e
  split at e
  next st' h' h2 => exact ⟨st', h', h2, e⟩
  next h2 =>
    rw [h3] at e
    dsimp only at e
    cases d with
    | zero => cases e
    | succ d =>
      dsimp only at e
      rw [h4] at e
      dsimp only at e
      rw [h5] at e
      dsimp only at e
      rw [h6] at e
      dsimp only at e
      rw [h7] at e
      cases e
section HP
variable {ro : List (List Int32)} {n d : Nat} {q : xQ} {pc pc' : Nat} {ls ls' : xL} {st st' : List Value} {p : xH} {Q : Option Value → xH → Prop} {i : Instr}
theorem hp_0 : hP ro 0 d q pc ls st p Q := by
  intro hw r p' e
  simp [ev] at e
theorem hp_more (h : hP ro (n + 1) d q pc ls st p Q) : hP ro n d q pc ls st p Q := fun hw r p' e => h hw r p' (ev_more _ e)
theorem hp_imp {Q' : Option Value → xH → Prop} (h : hP ro n d q pc ls st p Q') (k : ∀ r p', hW p' → Q' r p' → Q r p') : hP ro n d q pc ls st p Q := fun hw r p' e => by
  obtain ⟨h1, h2⟩ := h hw r p' e
  exact ⟨h1, k r p' h1 h2⟩
theorem hp_w {p' : xH} (hs : ∀ n, ev ro (n + 1) d q pc ls st p = ev ro n d q pc' ls' st' p') (hw : hW p → hW p') (K : hP ro n d q pc' ls' st' p' Q) : hP ro n d q pc ls st p Q := by
  intro h r p2 e
  cases n with
  | zero => simp [ev] at e
  | succ n => rw [hs] at e; exact K (hw h) r p2 (ev_more _ e)
theorem hp_w1 {p' : xH} (hs : ev ro (n + 1) d q pc ls st p = ev ro n d q pc' ls' st' p') (hw : hW p → hW p') (K : hP ro n d q pc' ls' st' p' Q) : hP ro (n + 1) d q pc ls st p Q := by
  intro h r p2 e
  rw [hs] at e
  exact K (hw h) r p2 e
/-- locals and stack alone -/
theorem hp_s (hi : xcg q.2.2.2.2 pc = some i) (h1 : xs1 q.1 q.2.1 i ls st = some (ls', st')) (hp : pc + xil i = pc') (K : hP ro n d q pc' ls' st' p Q) : hP ro n d q pc ls st p Q := by
  subst hp
  exact hp_w (fun n => ev_s hi h1) id K
theorem hp_s1 (hi : xcg q.2.2.2.2 pc = some i) (h1 : xs1 q.1 q.2.1 i ls st = some (ls', st')) (hp : pc + xil i = pc') (K : hP ro n d q pc' ls' st' p Q) : hP ro (n + 1) d q pc ls st p Q := by
  subst hp
  exact hp_w1 (ev_s hi h1) id K
/-- what is worked out gets a name -/
theorem hp_z {e : Int32} (hi : xcg q.2.2.2.2 pc = some i) (h1 : xs1 q.1 q.2.1 i ls st = some (ls, .int e :: st')) (hp : pc + xil i = pc') (K : ∀ z, z = e → hP ro n d q pc' ls (.int z :: st') p Q) : hP ro n d q pc ls st p Q :=
  hp_s hi h1 hp (K e rfl)
theorem hp_zl {e : Int64} (hi : xcg q.2.2.2.2 pc = some i) (h1 : xs1 q.1 q.2.1 i ls st = some (ls, .long e :: st')) (hp : pc + xil i = pc') (K : ∀ z, z = e → hP ro n d q pc' ls (.long z :: st') p Q) : hP ro n d q pc ls st p Q :=
  hp_s hi h1 hp (K e rfl)
/-- division, rest: by no 0 -/
theorem hp_div {x y : Int32} (hi : xcg q.2.2.2.2 pc = some .idiv) (hp : pc + 1 = pc') (K : y ≠ 0 → ∀ z, z = x / y → hP ro n d q pc' ls (.int z :: st) p Q) : hP ro n d q pc ls (.int y :: .int x :: st) p Q := by
  subst hp
  by_cases hy : y = 0
  · intro hw r p' e
    subst hy
    cases n with
    | zero => simp [ev] at e
    | succ n =>
      obtain ⟨st', h', e1, -⟩ := ev_hx (i := .idiv) hi (by simp only [xs1]; rfl) rfl rfl rfl rfl rfl rfl e
      cases e1
  · exact hp_s (i := .idiv) hi (by simp only [xs1]; rw [if_neg hy]) rfl (K hy _ rfl)
theorem hp_rem {x y : Int32} (hi : xcg q.2.2.2.2 pc = some .irem) (hp : pc + 1 = pc') (K : y ≠ 0 → ∀ z, z = x - x / y * y → hP ro n d q pc' ls (.int z :: st) p Q) : hP ro n d q pc ls (.int y :: .int x :: st) p Q := by
  subst hp
  by_cases hy : y = 0
  · intro hw r p' e
    subst hy
    cases n with
    | zero => simp [ev] at e
    | succ n =>
      obtain ⟨st', h', e1, -⟩ := ev_hx (i := .irem) hi (by simp only [xs1]; rfl) rfl rfl rfl rfl rfl rfl e
      cases e1
  · exact hp_s (i := .irem) hi (by simp only [xs1]; rw [if_neg hy]) rfl (K hy _ rfl)
/-- a jump that is decided -/
theorem hp_go (hi : xcg q.2.2.2.2 pc = some i) (h0 : xs1 q.1 q.2.1 i ls st = none) (h1 : xbr i pc st = some (pc', st')) (K : hP ro n d q pc' ls st' p Q) : hP ro n d q pc ls st p Q :=
  hp_w (fun n => ev_b hi h0 h1) id K
theorem hp_ic {c : ClassFile.Cond} {o : Int} {t : Nat} {x y : Int32} {a b : Int} (hi : xcg q.2.2.2.2 pc = some (.if_icmp c o)) (ht : xtg pc o = some t) (hp : pc + 3 = pc') (hx : x.toInt = a) (hy : y.toInt = b) (k1 : jcd c a b → hP ro n d q t ls st p Q) (k2 : ¬ jcd c a b → hP ro n d q pc' ls st p Q) : hP ro n d q pc ls (.int y :: .int x :: st) p Q := by
  subst hp hx hy
  cases hc : xcmp c x y with
  | true => exact hp_go hi rfl (by simp only [xbr, ht, Option.map_some, hc, cond_true]) (k1 (xcmp_j.mp hc))
  | false => exact hp_go hi rfl (by simp only [xbr, ht, Option.map_some, hc, cond_false]) (k2 (fun h => by rw [xcmp_j.mpr h] at hc; cases hc))
theorem hp_if {c : ClassFile.Cond} {o : Int} {t : Nat} {x : Int32} {a : Int} (hi : xcg q.2.2.2.2 pc = some (.ifCond c o)) (ht : xtg pc o = some t) (hp : pc + 3 = pc') (hx : x.toInt = a) (k1 : jcd c a 0 → hP ro n d q t ls st p Q) (k2 : ¬ jcd c a 0 → hP ro n d q pc' ls st p Q) : hP ro n d q pc ls (.int x :: st) p Q := by
  subst hp hx
  cases hc : xcmp c x 0 with
  | true => exact hp_go hi rfl (by simp only [xbr, ht, Option.map_some, hc, cond_true]) (k1 (xcmp_j.mp hc))
  | false => exact hp_go hi rfl (by simp only [xbr, ht, Option.map_some, hc, cond_false]) (k2 (fun h => by rw [xcmp_j.mpr h] at hc; cases hc))
theorem lg_cd (c : ClassFile.Cond) (x y : Int64) : jcd c (lg_cmp x y).toInt 0 ↔ jcd c x.toInt y.toInt := by
  have h1 : x > y ↔ y.toInt < x.toInt := Int64.lt_iff_toInt_lt
  have h2 : x = y ↔ x.toInt = y.toInt := Int64.toInt_inj.symm
  unfold lg_cmp
  by_cases a1 : x > y
  · rw [if_pos a1]
    have a2 : y.toInt < x.toInt := h1.mp a1
    have e : (1 : Int32).toInt = 1 := by decide
    rw [e]
    cases c with
    | eq => exact (show (1 : Int) = 0 ↔ x.toInt = y.toInt from by omega)
    | ne => exact (show (1 : Int) ≠ 0 ↔ x.toInt ≠ y.toInt from by omega)
    | lt => exact (show (1 : Int) < 0 ↔ x.toInt < y.toInt from by omega)
    | ge => exact (show (0 : Int) ≤ 1 ↔ y.toInt ≤ x.toInt from by omega)
    | gt => exact (show (0 : Int) < 1 ↔ y.toInt < x.toInt from by omega)
    | le => exact (show (1 : Int) ≤ 0 ↔ x.toInt ≤ y.toInt from by omega)
  · rw [if_neg a1]
    have a3 : ¬ y.toInt < x.toInt := fun z => a1 (h1.mpr z)
    by_cases a2 : x = y
    · rw [if_pos a2]
      have a4 : x.toInt = y.toInt := h2.mp a2
      have e : (0 : Int32).toInt = 0 := by decide
      rw [e]
      cases c with
      | eq => exact (show (0 : Int) = 0 ↔ x.toInt = y.toInt from by omega)
      | ne => exact (show (0 : Int) ≠ 0 ↔ x.toInt ≠ y.toInt from by omega)
      | lt => exact (show (0 : Int) < 0 ↔ x.toInt < y.toInt from by omega)
      | ge => exact (show (0 : Int) ≤ 0 ↔ y.toInt ≤ x.toInt from by omega)
      | gt => exact (show (0 : Int) < 0 ↔ y.toInt < x.toInt from by omega)
      | le => exact (show (0 : Int) ≤ 0 ↔ x.toInt ≤ y.toInt from by omega)
    · rw [if_neg a2]
      have a4 : ¬ x.toInt = y.toInt := fun z => a2 (h2.mpr z)
      have e : (-1 : Int32).toInt = -1 := by decide
      rw [e]
      cases c with
      | eq => exact (show ((-1) : Int) = 0 ↔ x.toInt = y.toInt from by omega)
      | ne => exact (show ((-1) : Int) ≠ 0 ↔ x.toInt ≠ y.toInt from by omega)
      | lt => exact (show ((-1) : Int) < 0 ↔ x.toInt < y.toInt from by omega)
      | ge => exact (show (0 : Int) ≤ (-1) ↔ y.toInt ≤ x.toInt from by omega)
      | gt => exact (show (0 : Int) < (-1) ↔ y.toInt < x.toInt from by omega)
      | le => exact (show ((-1) : Int) ≤ 0 ↔ x.toInt ≤ y.toInt from by omega)
/-- longs compared -/
theorem hp_lc {c : ClassFile.Cond} {o : Int} {t : Nat} {x y : Int64} {a b : Int} (hi : xcg q.2.2.2.2 pc = some .lcmp) (hi2 : xcg q.2.2.2.2 (pc + 1) = some (.ifCond c o)) (ht : xtg (pc + 1) o = some t) (hp : pc + 4 = pc') (hx : x.toInt = a) (hy : y.toInt = b) (k1 : jcd c a b → hP ro n d q t ls st p Q) (k2 : ¬ jcd c a b → hP ro n d q pc' ls st p Q) : hP ro n d q pc ls (.long y :: .long x :: st) p Q := by
  subst hx hy
  refine hp_s (i := .lcmp) (ls' := ls) (st' := .int (lg_cmp x y) :: st) (pc' := pc + 1) hi rfl rfl ?_
  exact hp_if hi2 ht hp rfl (fun h => k1 ((lg_cd c x y).mp h)) (fun h => k2 (fun z => h ((lg_cd c x y).mpr z)))
/-- a switch, at a number -/
theorem hp_sw {x : Int32} {v : Int} {t : Nat} (hi : xcg q.2.2.2.2 pc = some i) (h0 : xs1 q.1 q.2.1 i ls (.int x :: st) = none) (hx : x.toInt = v) (hb : xbr i pc (.int (Int32.ofInt v) :: st) = some (t, st)) (K : hP ro n d q t ls st p Q) : hP ro n d q pc ls (.int x :: st) p Q := by
  refine hp_go hi h0 ?_ K
  rw [← hx, Int32.ofInt_toInt] at hb
  exact hb
theorem hp_td {x : Int32} {dd lo hi0 : Int} {offs : Array Int} {t : Nat} (hi : xcg q.2.2.2.2 pc = some (.tableswitch dd lo hi0 offs)) (ht : xtg pc dd = some t) (hx : x.toInt < lo ∨ hi0 < x.toInt) (K : hP ro n d q t ls st p Q) : hP ro n d q pc ls (.int x :: st) p Q := by
  refine hp_go hi rfl ?_ K
  simp only [xbr]
  rw [if_pos hx, ht]
  rfl
/-- fields -/
theorem hp_get {idx ci k z r : Nat} {fs : List (Value ⊕ (Int × Int))} {b : Int × Int} (hi : xcg q.2.2.2.2 pc = some (.getfield idx)) (hF : xtb xF q.1 idx = some (ci, k, z)) (hG : jgc jGG r = some (ci, .inl fs)) (hf : fs[k]? = some (.inr b)) {v : Int32} (hp : pc + 3 = pc') (hv : rI p r k = v) (K : hP ro n d q pc' ls (.int v :: st) p Q) : hP ro n d q pc ls (.ref r :: st) p Q := by
  subst hp hv
  intro hw
  obtain ⟨vs, hc, hk⟩ := hW_fld hw hG hf
  exact hp_w (p' := p) (fun n => ev_h hi rfl rfl (by simp only [xho, hF, hc, Nat.beq_refl, cond_true, hk]; rfl)) id K hw
theorem hp_getr {idx ci k z r : Nat} {fs : List (Value ⊕ (Int × Int))} {w : Value} (hi : xcg q.2.2.2.2 pc = some (.getfield idx)) (hF : xtb xF q.1 idx = some (ci, k, z)) (hG : jgc jGG r = some (ci, .inl fs)) (hf : fs[k]? = some (.inl w)) (hp : pc + 3 = pc') (K : hP ro n d q pc' ls (w :: st) p Q) : hP ro n d q pc ls (.ref r :: st) p Q := by
  subst hp
  intro hw
  obtain ⟨vs, hc, hk⟩ := hW_ref hw hG hf
  exact hp_w (p' := p) (fun n => ev_h hi rfl rfl (by simp only [xho, hF, hc, Nat.beq_refl, cond_true, hk]; rfl)) id K hw
theorem hp_put {idx ci k z r : Nat} {fs : List (Value ⊕ (Int × Int))} {b : Int × Int} {x : Int32} (hi : xcg q.2.2.2.2 pc = some (.putfield idx)) (hF : xtb xF q.1 idx = some (ci, k, z)) (hG : jgc jGG r = some (ci, .inl fs)) (hf : fs[k]? = some (.inr b)) (hp : pc + 3 = pc') (K : ∀ p', hW p → p' = wV p r k (.int x) → hP ro n d q pc' ls st p' Q) : hP ro n d q pc ls (.int x :: .ref r :: st) p Q := by
  subst hp
  intro hw r2 p2 e
  cases n with
  | zero => simp [ev] at e
  | succ n =>
    obtain ⟨st', h', e1, e2⟩ := ev_hx hi rfl rfl rfl rfl rfl rfl rfl e
    obtain ⟨vs, hc, -⟩ := hW_cell hw hG
    simp only [xho, hF, hc] at e1
    cases hB : (Nat.beq ci ci && Nat.blt k vs.length) with
    | false => rw [hB] at e1; cases e1
    | true =>
      rw [hB, cond_true] at e1
      split at e1
      next cs h2 =>
        split at e1
        next c h3 =>
          cases hC : (xfit c (.int x) && (Nat.blt c 10 || Nat.beq q.2.2.1 2 && Nat.beq ci q.1)) with
          | false => rw [hC] at e1; cases e1
          | true =>
            rw [hC, cond_true] at e1
            cases e1
            have e3 : p.set r (ci, vs.set k (.int x)) = wV p r k (.int x) := by unfold wV; rw [hc]
            rw [e3] at e2
            exact K _ hw rfl (hW_wV hw (by unfold hT; rw [hG]; dsimp only; rw [hf]; rfl)) r2 p2 (ev_more _ e2)
        next => cases e1
      next => cases e1
end HP
end
section
/-! runs of the pure machine: rows, calls, ends -/
theorem hneg {x : Int32} (h : ¬ x < 0) : 0 ≤ x.toInt := by
  have h3 : (0 : Int32).toInt = 0 := by decide
  rcases (show x.toInt < 0 ∨ 0 ≤ x.toInt from by omega) with z | z
  · exact absurd (Int32.lt_iff_toInt_lt.mpr (by rw [h3]; exact z)) h
  · exact z
theorem hW_row {p : xH} {r t : Nat} {b : Nat × Int × Int} (h : hW p) (hG : jgc jGG r = some (t, .inr b)) : ∃ vs, p[r]? = some (t, vs) ∧ vs.length = b.1 ∧ ∀ v ∈ vs, jk v = if t = 102 then 1 else 0 := by
  obtain ⟨vs, hc, hl, -, a2, a3⟩ := hW_cell h hG
  exact ⟨vs, hc, hl, a3⟩
theorem rV_at {p : xH} {r t k : Nat} {vs : List Value} {v : Value} (hc : p[r]? = some (t, vs)) (hv : vs[k]? = some v) : rV p r k = v := by
  unfold rV
  rw [hc]
  dsimp only
  rw [List.getD_eq_getElem?_getD, hv]
  rfl
section HP2
variable {ro : List (List Int32)} {n d : Nat} {q : xQ} {pc pc' : Nat} {ls ls' : xL} {st st' : List Value} {p : xH} {Q : Option Value → xH → Prop} {i : Instr}
/-- elements of rows of ints, of booleans (t: 100, 101) -/
theorem hp_ld {r : Nat} {b : Nat × Int × Int} {j v : Int32} {t : Nat} (hi : xcg q.2.2.2.2 pc = some (bif Nat.beq t 101 then .baload else .iaload)) (ht : t = 100 ∨ t = 101) (hG : jgc jGG r = some (t, .inr b)) (hp : pc + 1 = pc') (hv : rI p r j.toInt.toNat = v) (K : 0 ≤ j.toInt → j.toInt < b.1 → hP ro n d q pc' ls (.int v :: st) p Q) : hP ro n d q pc ls (.int j :: .ref r :: st) p Q := by
  subst hp hv
  intro hw r2 p2 e
  cases n with
  | zero => simp [ev] at e
  | succ n =>
    obtain ⟨vs, hc, hl, hk⟩ := hW_row hw hG
    have key : ∀ {x : Int32}, ¬ j < 0 → vs[j.toNatClampNeg]? = some (.int x) → 0 ≤ j.toInt ∧ j.toInt < b.1 ∧ rI p r j.toInt.toNat = x := fun {x} h1 h2 => by
      have h3 := hneg h1
      have h4 := (List.getElem?_eq_some_iff.mp h2).1
      have h5 : j.toNatClampNeg = j.toInt.toNat := rfl
      refine ⟨h3, by omega, ?_⟩
      unfold rI
      rw [← h5, rV_at hc h2]
    rcases ht with rfl | rfl
    · obtain ⟨st', h', e1, e2⟩ := ev_hx (i := .iaload) hi rfl rfl rfl rfl rfl rfl rfl e
      simp only [xho, hc] at e1
      rw [show Nat.beq 100 100 = true from rfl, cond_true] at e1
      split at e1
      next => cases e1
      next h1 =>
        split at e1
        next x h2 =>
          cases e1
          obtain ⟨k1, k2, k3⟩ := key h1 h2
          exact K k1 k2 hw r2 p2 (by rw [k3]; exact ev_more _ e2)
        next => cases e1
    · obtain ⟨st', h', e1, e2⟩ := ev_hx (i := .baload) hi rfl rfl rfl rfl rfl rfl rfl e
      simp only [xho, hc] at e1
      rw [show Nat.beq 101 101 = true from rfl, cond_true] at e1
      split at e1
      next => cases e1
      next h1 =>
        split at e1
        next x h2 =>
          cases e1
          obtain ⟨k1, k2, k3⟩ := key h1 h2
          exact K k1 k2 hw r2 p2 (by rw [k3]; exact ev_more _ e2)
        next => cases e1
theorem hp_ldl {r : Nat} {b : Nat × Int × Int} {j : Int32} {v : Int64} (hi : xcg q.2.2.2.2 pc = some .laload) (hG : jgc jGG r = some (102, .inr b)) (hp : pc + 1 = pc') (hv : rJ p r j.toInt.toNat = v) (K : 0 ≤ j.toInt → j.toInt < b.1 → hP ro n d q pc' ls (.long v :: st) p Q) : hP ro n d q pc ls (.int j :: .ref r :: st) p Q := by
  subst hp hv
  intro hw r2 p2 e
  cases n with
  | zero => simp [ev] at e
  | succ n =>
    obtain ⟨vs, hc, hl, hk⟩ := hW_row hw hG
    obtain ⟨st', h', e1, e2⟩ := ev_hx (i := .laload) hi rfl rfl rfl rfl rfl rfl rfl e
    simp only [xho, hc] at e1
    rw [show Nat.beq 102 102 = true from rfl, cond_true] at e1
    split at e1
    next => cases e1
    next h1 =>
      split at e1
      next x h2 =>
        cases e1
        have h3 := hneg h1
        have h4 := (List.getElem?_eq_some_iff.mp h2).1
        have h5 : j.toNatClampNeg = j.toInt.toNat := rfl
        have h6 : rJ p r j.toInt.toNat = x := by unfold rJ; rw [← h5, rV_at hc h2]
        exact K h3 (by omega) hw r2 p2 (by rw [h6]; exact ev_more _ e2)
      next => cases e1
/-- an element is written -/
theorem hp_st {r : Nat} {b : Nat × Int × Int} {j x : Int32} {t : Nat} (hi : xcg q.2.2.2.2 pc = some (bif Nat.beq t 101 then .bastore else .iastore)) (ht : t = 100 ∨ t = 101) (hG : jgc jGG r = some (t, .inr b)) (hp : pc + 1 = pc') (K : ∀ p', hW p → 0 ≤ j.toInt → j.toInt < b.1 → p' = wV p r j.toInt.toNat (.int x) → hP ro n d q pc' ls st p' Q) : hP ro n d q pc ls (.int x :: .int j :: .ref r :: st) p Q := by
  subst hp
  intro hw r2 p2 e
  cases n with
  | zero => simp [ev] at e
  | succ n =>
    obtain ⟨vs, hc, hl, hk⟩ := hW_row hw hG
    have hT0 : hT r j.toInt.toNat = some (jk (.int x)) := by
      unfold hT
      rw [hG]
      rcases ht with rfl | rfl <;> rfl
    have e3 : p.set r (t, vs.set j.toInt.toNat (.int x)) = wV p r j.toInt.toNat (.int x) := by unfold wV; rw [hc]
    have h5 : j.toNatClampNeg = j.toInt.toNat := rfl
    rcases ht with rfl | rfl
    · obtain ⟨st', h', e1, e2⟩ := ev_hx (i := .iastore) hi rfl rfl rfl rfl rfl rfl rfl e
      simp only [xho, hc] at e1
      rw [h5] at e1
      cases hB : (Nat.beq 100 100 && Nat.blt j.toInt.toNat vs.length) with
      | false => rw [hB] at e1; cases e1
      | true =>
        rw [hB, cond_true] at e1
        rw [Bool.and_eq_true] at hB
        have h6 := Nat.le_of_ble_eq_true hB.2
        split at e1
        next => cases e1
        next h1 =>
          cases e1
          rw [e3] at e2
          exact K _ hw (hneg h1) (by have := hneg h1; omega) rfl (hW_wV hw hT0) r2 p2 (ev_more _ e2)
    · obtain ⟨st', h', e1, e2⟩ := ev_hx (i := .bastore) hi rfl rfl rfl rfl rfl rfl rfl e
      simp only [xho, hc] at e1
      rw [h5] at e1
      cases hB : (Nat.beq 101 101 && Nat.blt j.toInt.toNat vs.length && (x == 0 || x == 1)) with
      | false => rw [hB] at e1; cases e1
      | true =>
        rw [hB, cond_true] at e1
        rw [Bool.and_eq_true, Bool.and_eq_true] at hB
        have h6 := Nat.le_of_ble_eq_true hB.1.2
        split at e1
        next => cases e1
        next h1 =>
          cases e1
          rw [e3] at e2
          exact K _ hw (hneg h1) (by have := hneg h1; omega) rfl (hW_wV hw hT0) r2 p2 (ev_more _ e2)
theorem hp_stl {r : Nat} {b : Nat × Int × Int} {j : Int32} {x : Int64} (hi : xcg q.2.2.2.2 pc = some .lastore) (hG : jgc jGG r = some (102, .inr b)) (hp : pc + 1 = pc') (K : ∀ p', hW p → 0 ≤ j.toInt → j.toInt < b.1 → p' = wV p r j.toInt.toNat (.long x) → hP ro n d q pc' ls st p' Q) : hP ro n d q pc ls (.long x :: .int j :: .ref r :: st) p Q := by
  subst hp
  intro hw r2 p2 e
  cases n with
  | zero => simp [ev] at e
  | succ n =>
    obtain ⟨vs, hc, hl, hk⟩ := hW_row hw hG
    have hT0 : hT r j.toInt.toNat = some (jk (.long x)) := by
      unfold hT
      rw [hG]
      rfl
    have e3 : p.set r (102, vs.set j.toInt.toNat (.long x)) = wV p r j.toInt.toNat (.long x) := by unfold wV; rw [hc]
    have h5 : j.toNatClampNeg = j.toInt.toNat := rfl
    obtain ⟨st', h', e1, e2⟩ := ev_hx (i := .lastore) hi rfl rfl rfl rfl rfl rfl rfl e
    simp only [xho, hc] at e1
    rw [h5] at e1
    cases hB : (Nat.beq 102 102 && Nat.blt j.toInt.toNat vs.length) with
    | false => rw [hB] at e1; cases e1
    | true =>
      rw [hB, cond_true] at e1
      rw [Bool.and_eq_true] at hB
      have h6 := Nat.le_of_ble_eq_true hB.2
      split at e1
      next => cases e1
      next h1 =>
        cases e1
        rw [e3] at e2
        exact K _ hw (hneg h1) (by have := hneg h1; omega) rfl (hW_wV hw hT0) r2 p2 (ev_more _ e2)
/-- how long a row is -/
theorem hp_len {r : Nat} {b : Nat × Int × Int} (hi : xcg q.2.2.2.2 pc = some .arraylength) (hG : jgc jGG r = some (100, .inr b)) (hp : pc + 1 = pc') (K : hP ro n d q pc' ls (.int (Int32.ofNat b.1) :: st) p Q) : hP ro n d q pc ls (.ref r :: st) p Q := by
  subst hp
  intro hw
  obtain ⟨vs, hc, hl, -⟩ := hW_row hw hG
  exact hp_w (p' := p) (fun n => ev_h (i := .arraylength) hi rfl rfl (by simp only [xho, hc]; rw [show Nat.beq 100 100 = true from rfl, cond_true, hl])) id K hw
/-- the static rows -/
theorem hp_sta {idx k z : Nat} (hi : xcg q.2.2.2.2 pc = some (.getstatic idx)) (hF : xtb xG q.1 idx = some (k, z)) (hp : pc + 3 = pc') (K : hP ro n d q pc' ls (.retAddr k :: st) p Q) : hP ro n d q pc ls st p Q := by
  subst hp
  exact hp_w (p' := p) (fun n => ev_h (i := .getstatic idx) hi (by unfold xs1; split <;> first | rfl | (cases ‹Instr.getstatic _ = _›)) (by unfold xbr; split <;> first | rfl | (cases ‹Instr.getstatic _ = _›)) (by unfold xho; split <;> first | (rw [hF]; rfl) | (cases ‹Instr.getstatic _ = _›; rw [hF]; rfl) | (cases ‹Instr.getstatic _ = _›))) id K
theorem hp_lds {s : Nat} {xs : List Int32} {j : Int32} (hro : ro[s]? = some xs) (hi : xcg q.2.2.2.2 pc = some .iaload) (hp : pc + 1 = pc') (K : 0 ≤ j.toInt → j.toInt < xs.length → hP ro n d q pc' ls (.int (xs.getD j.toInt.toNat 0) :: st) p Q) : hP ro n d q pc ls (.int j :: .retAddr s :: st) p Q := by
  subst hp
  intro hw r2 p2 e
  cases n with
  | zero => simp [ev] at e
  | succ n =>
    obtain ⟨st', h', e1, e2⟩ := ev_hx (i := .iaload) hi rfl rfl rfl rfl rfl rfl rfl e
    simp only [xho, hro] at e1
    split at e1
    next => cases e1
    next h1 =>
      obtain ⟨x, h2, h3⟩ := xmap e1
      cases h3
      have h3 := hneg h1
      have h4 := (List.getElem?_eq_some_iff.mp h2).1
      have h5 : j.toNatClampNeg = j.toInt.toNat := rfl
      exact K h3 (by omega) hw r2 p2 (by rw [← h5, List.getD_eq_getElem?_getD, h2]; exact ev_more _ e2)
/-- ends -/
theorem hp_r {r : Option Value} (hi : xcg q.2.2.2.2 pc = some i) (h0 : xs1 q.1 q.2.1 i ls st = none) (h1 : xbr i pc st = none) (h2 : xho ro q.1 q.2.2.1 i st p = none) (h3 : xrt q.2.2.2.1 i st = some r) (K : Q r p) : hP ro n d q pc ls st p Q := by
  intro hw r2 p2 e
  cases n with
  | zero => simp [ev] at e
  | succ n =>
    rw [ev_r hi h0 h1 h2 h3] at e
    cases e
    exact ⟨hw, K⟩
theorem hp_ri {x : Int32} (hi : xcg q.2.2.2.2 pc = some .ireturn) (hr : q.2.2.2.1 = 1) (K : Q (some (.int x)) p) : hP ro n d q pc ls [.int x] p Q :=
  hp_r (i := .ireturn) hi rfl rfl rfl (by rw [hr]; rfl) K
theorem hp_rb {x : Int32} (hi : xcg q.2.2.2.2 pc = some .ireturn) (hr : q.2.2.2.1 = 2) (K : x = 0 ∨ x = 1 → Q (some (.int x)) p) : hP ro n d q pc ls [.int x] p Q := by
  intro hw r2 p2 e
  by_cases hx : (x == 0 || x == 1) = true
  · refine hp_r (i := .ireturn) (r := some (.int x)) hi rfl rfl rfl (by rw [hr]; simp only [xrt]; rw [hx]; rfl) (K ?_) hw r2 p2 e
    rw [Bool.or_eq_true] at hx
    exact hx.imp eq_of_beq eq_of_beq
  · cases n with
    | zero => simp [ev] at e
    | succ n =>
      have hx : (x == 0 || x == 1) = false := by cases h : (x == 0 || x == 1) with
        | false => rfl
        | true => exact absurd h hx
      obtain ⟨st', h', e1, -⟩ := ev_hx (i := .ireturn) hi rfl rfl (by rw [hr]; simp only [xrt]; rw [hx]; rfl) rfl rfl rfl rfl e
      cases e1
theorem hp_rl {x : Int64} (hi : xcg q.2.2.2.2 pc = some .lreturn) (hr : q.2.2.2.1 = 3) (K : Q (some (.long x)) p) : hP ro n d q pc ls [.long x] p Q :=
  hp_r (i := .lreturn) hi rfl rfl rfl (by rw [hr]; rfl) K
theorem hp_rv (hi : xcg q.2.2.2.2 pc = some .return_) (hr : q.2.2.2.1 = 0) (K : Q none p) : hP ro n d q pc ls [] p Q :=
  hp_r (i := .return_) hi rfl rfl rfl (by rw [hr]; rfl) K
/-- calls -/
theorem hp_c {y : Nat} {q' : xQ} {as rest : List Value} (hi : xcg q.2.2.2.2 pc = some i) (h0 : xs1 q.1 q.2.1 i ls st = none) (h1 : xbr i pc st = none) (h2 : xho ro q.1 q.2.2.1 i st p = none) (h3 : xrt q.2.2.2.1 i st = none) (h4 : xob q.1 i st = none) (h5 : xmm q.1 i st = none) (h5b : xay q.1 i st p = none) (h6 : hW p → xca q.1 i st p = some (y, as, rest)) (h7 : xM[y]? = some q') (hp : pc + 3 = pc')
    (K : ∀ d', hP ro n d' q' 0 (lv_args 0 as) [] p (fun r p' => hP ro n d q pc' ls (r.toList ++ rest) p' Q)) : hP ro n d q pc ls st p Q := by
  subst hp
  intro hw r2 p2 e
  cases n with
  | zero => simp [ev] at e
  | succ n =>
    cases d with
    | zero =>
      rw [ev, hi] at e
      dsimp only at e
      rw [h0] at e
      dsimp only at e
      rw [h1] at e
      dsimp only at e
      rw [h2] at e
      dsimp only at e
      rw [h3] at e
      cases e
    | succ d =>
      rw [ev, hi] at e
      dsimp only at e
      rw [h0] at e
      dsimp only at e
      rw [h1] at e
      dsimp only at e
      rw [h2] at e
      dsimp only at e
      rw [h3] at e
      dsimp only at e
      rw [h4] at e
      dsimp only at e
      rw [h5] at e
      dsimp only at e
      rw [h5b] at e
      dsimp only at e
      rw [h6 hw] at e
      dsimp only at e
      rw [h7] at e
      dsimp only at e
      cases hB : (Nat.ble (xcs rest) 8 && Nat.ble (xcs as) q'.2.1) with
      | false => rw [hB] at e; cases e
      | true =>
        rw [hB, cond_true] at e
        split at e
        next => cases e
        next r h' e1 =>
          obtain ⟨k1, k2⟩ := K d hw r h' (ev_more _ e1)
          exact k2 k1 r2 p2 (ev_more _ e)
theorem hp_cv {idx y m pl r o kd : Nat} {q' : xQ} {g2 : List (Value ⊕ (Int × Int)) ⊕ (Nat × Int × Int)} {as rest : List Value} (hi : xcg q.2.2.2.2 pc = some (.invokevirtual idx)) (hC : xtb xC q.1 idx = some (y, m, pl, 0)) (hM : xM[y]? = some q') (ho : q'.1 = o) (hk : q'.2.2.1 = kd) (hT : xtk m [] st = some (as, .ref r :: rest)) (hG : jgc jGG r = some (o, g2)) (hy : (Nat.blt y xOw && Nat.beq kd 1 && Nat.blt o 13) = true) (hp : pc + 3 = pc')
    (K : ∀ d', hP ro n d' q' 0 (lv_args 0 (.ref r :: as)) [] p (fun v p' => hP ro n d q pc' ls (v.toList ++ rest) p' Q)) : hP ro n d q pc ls st p Q := by
  obtain ⟨o2, nl, kd2, rk, cd⟩ := q'
  have ho : o2 = o := ho
  have hk : kd2 = kd := hk
  subst ho hk
  rw [Bool.and_eq_true, Bool.and_eq_true] at hy
  refine hp_c (as := .ref r :: as) (rest := rest) hi rfl rfl rfl rfl ?_ ?_ ?_ (fun hw => ?_) hM hp K
  · unfold xob; split <;> first | rfl | (cases ‹Instr.invokevirtual _ = _›)
  · unfold xmm; split <;> first | rfl | (cases ‹Instr.invokevirtual _ = _›)
  · unfold xay; split <;> first | rfl | (cases ‹Instr.invokevirtual _ = _›)
  · obtain ⟨vs, hc, -⟩ := hW_cell hw hG
    simp only [xca, hC, hM, hT, hc]
    rw [hy.1.1, hy.1.2, hy.2, show Nat.beq 0 0 = true from rfl, Nat.beq_refl]
    rfl
theorem hp_cs {idx y m pl kd : Nat} {q' : xQ} {as rest : List Value} (hi : xcg q.2.2.2.2 pc = some (.invokestatic idx)) (hC : xtb xC q.1 idx = some (y, m, pl, 0)) (hM : xM[y]? = some q') (hk : q'.2.2.1 = kd) (hT : xtk m [] st = some (as, rest)) (hy : (Nat.blt y xOw && Nat.beq kd 0 && !(Nat.beq y xMx) && !(Nat.beq y xMn)) = true) (hp : pc + 3 = pc')
    (K : ∀ d', hP ro n d' q' 0 (lv_args 0 as) [] p (fun v p' => hP ro n d q pc' ls (v.toList ++ rest) p' Q)) : hP ro n d q pc ls st p Q := by
  obtain ⟨o2, nl, kd2, rk, cd⟩ := q'
  have hk : kd2 = kd := hk
  subst hk
  rw [Bool.and_eq_true, Bool.and_eq_true, Bool.and_eq_true, Bool.not_eq_true', Bool.not_eq_true'] at hy
  refine hp_c (as := as) (rest := rest) hi rfl rfl rfl rfl rfl ?_ (xay_none hC st p) (fun hw => ?_) hM hp K
  · unfold xmm
    split
    next idx2 y2 x2 rest2 heq =>
      cases heq
      rw [hC]
      dsimp only
      rw [hy.1.2, hy.2]
      rfl
    next => rfl
  · simp only [xca, hC, hM, hT]
    rw [hy.1.1.1, hy.1.1.2, show Nat.beq 0 0 = true from rfl]
    rfl
end HP2
end
section
/-! runs of the pure machine: more rows; numbers -/
section HP3
variable {ro : List (List Int32)} {n d : Nat} {q : xQ} {pc pc' : Nat} {ls ls' : xL} {st st' : List Value} {p : xH} {Q : Option Value → xH → Prop} {i : Instr}
theorem hp_id (K : hP ro n d q pc ls st p Q) : hP ro n d q pc ls st p Q := K
theorem hp_inc {k : Nat} {c : Int} {x : Int32} {L : Int32 → xL} (hi : xcg q.2.2.2.2 pc = some (.iinc k c)) (hx : xldi ls k = some x) (hk : Nat.blt k q.2.1 = true) (hL : ∀ z, xs_1 ls k (.int z) = L z) (hp : pc + 3 = pc') (K : ∀ z, z = x + Int32.ofInt c → hP ro n d q pc' (L z) st p Q) : hP ro n d q pc ls st p Q := by
  subst hp
  refine hp_s (i := .iinc k c) (ls' := L (x + Int32.ofInt c)) (st' := st) hi ?_ rfl (K _ rfl)
  have h : xs1 q.1 q.2.1 (.iinc k c) ls st = (match xldi ls k with | some x => bif Nat.blt k q.2.1 then some (xs_1 ls k (.int (x + Int32.ofInt c)), st) else none | none => none) := rfl
  rw [h, hx]
  dsimp only
  rw [hk, cond_true, hL]
theorem hp_i2l {x : Int32} (hi : xcg q.2.2.2.2 pc = some .i2l) (hp : pc + 1 = pc') (K : ∀ z : Int64, z = x.toInt64 → z.toInt = x.toInt → hP ro n d q pc' ls (.long z :: st) p Q) : hP ro n d q pc ls (.int x :: st) p Q := by
  subst hp
  exact hp_s (i := .i2l) (ls' := ls) (st' := .long x.toInt64 :: st) hi rfl rfl (K _ rfl (Int32.toInt_toInt64 x))
theorem hp_mm {idx : Nat} {x y e : Int32} {rest : List Value} (hi : xcg q.2.2.2.2 pc = some (.invokestatic idx)) (h5 : xmm q.1 (.invokestatic idx) (.int y :: .int x :: rest) = some (.int e :: rest)) (hp : pc + 3 = pc') (K : ∀ z, z = e → hP ro n d q pc' ls (.int z :: rest) p Q) : hP ro n d q pc ls (.int y :: .int x :: rest) p Q := by
  subst hp
  intro hw r2 p2 ee
  have h0 : xs1 q.1 q.2.1 (.invokestatic idx) ls (.int y :: .int x :: rest) = none := rfl
  have h1 : xbr (.invokestatic idx) pc (.int y :: .int x :: rest) = none := rfl
  have h2 : xho ro q.1 q.2.2.1 (.invokestatic idx) (.int y :: .int x :: rest) p = none := rfl
  have h3 : xrt q.2.2.2.1 (.invokestatic idx) (.int y :: .int x :: rest) = none := rfl
  have h4 : xob q.1 (.invokestatic idx) (.int y :: .int x :: rest) = none := rfl
  cases n with
  | zero => simp [ev] at ee
  | succ n =>
    rw [ev, hi] at ee
    dsimp only at ee
    rw [h0] at ee
    dsimp only at ee
    rw [h1] at ee
    dsimp only at ee
    rw [h2] at ee
    dsimp only at ee
    rw [h3] at ee
    dsimp only at ee
    cases d with
    | zero => cases ee
    | succ d =>
      dsimp only at ee
      rw [h4] at ee
      dsimp only at ee
      rw [h5] at ee
      dsimp only at ee
      cases hB : Nat.ble (xcs (.int e :: rest)) 8 with
      | false => rw [hB] at ee; cases ee
      | true =>
        rw [hB, cond_true] at ee
        exact K e rfl hw r2 p2 (ev_more _ ee)
end HP3
theorem i_bm (a : Int) (h1 : -4294967296 ≤ a) (h2 : a ≤ 4294967296) : a.bmod 4294967296 = a ∨ (a < -2147483648 ∧ a.bmod 4294967296 = a + 4294967296) ∨ (2147483647 < a ∧ a.bmod 4294967296 = a - 4294967296) := by
  rcases (show a < (-2147483648) ∨ (-2147483648) ≤ a from by omega) with h | h
  · right; left
    refine ⟨h, ?_⟩
    have := Int.add_bmod_right a 4294967296
    rw [← this]
    exact Int.bmod_eq_of_le (by omega) (by omega)
  · rcases (show 2147483647 < a ∨ a ≤ 2147483647 from by omega) with g | g
    · right; right
      refine ⟨g, ?_⟩
      have := Int.add_bmod_right (a - 4294967296) 4294967296
      rw [show a - 4294967296 + ((4294967296 : Nat) : Int) = a by omega] at this
      rw [this]
      exact Int.bmod_eq_of_le (by omega) (by omega)
    · left
      exact Int.bmod_eq_of_le (by omega) (by omega)
theorem i_add {x y z : Int32} {a b : Int} (h : z = x + y) (hx : x.toInt = a) (hy : y.toInt = b) : (-2147483648 ≤ a ∧ a ≤ 2147483647 ∧ -2147483648 ≤ b ∧ b ≤ 2147483647) ∧ (z.toInt = a + b ∨ (a + b < -2147483648 ∧ z.toInt = a + b + 4294967296) ∨ (2147483647 < a + b ∧ z.toInt = a + b - 4294967296)) := by
  subst h hx hy
  have h1 := j32 x
  have h2 := j32 y
  rw [Int32.toInt_add]
  refine ⟨⟨h1.1, h1.2, h2.1, h2.2⟩, ?_⟩
  exact i_bm _ (by omega) (by omega)
theorem i_sub {x y z : Int32} {a b : Int} (h : z = x - y) (hx : x.toInt = a) (hy : y.toInt = b) : (-2147483648 ≤ a ∧ a ≤ 2147483647 ∧ -2147483648 ≤ b ∧ b ≤ 2147483647) ∧ (z.toInt = a - b ∨ (a - b < -2147483648 ∧ z.toInt = a - b + 4294967296) ∨ (2147483647 < a - b ∧ z.toInt = a - b - 4294967296)) := by
  subst h hx hy
  have h1 := j32 x
  have h2 := j32 y
  rw [Int32.toInt_sub]
  refine ⟨⟨h1.1, h1.2, h2.1, h2.2⟩, ?_⟩
  exact i_bm _ (by omega) (by omega)
theorem i_mul {x y z : Int32} {a b : Int} (h : z = x * y) (hx : x.toInt = a) (hy : y.toInt = b) : a * b < -2147483648 ∨ 2147483647 < a * b ∨ z.toInt = a * b := by
  subst h hx hy
  rcases (show (x.toInt * y.toInt) < (-2147483648) ∨ (-2147483648) ≤ (x.toInt * y.toInt) from by omega) with h | h1
  · exact Or.inl h
  rcases (show 2147483647 < (x.toInt * y.toInt) ∨ (x.toInt * y.toInt) ≤ 2147483647 from by omega) with h | h2
  · exact Or.inr (Or.inl h)
  right; right
  rw [Int32.toInt_mul]
  exact Int.bmod_eq_of_le (by omega) (by omega)
theorem i_div {x y z : Int32} {a b : Int} (h : z = x / y) (hx : x.toInt = a) (hy : y.toInt = b) (hb : 0 < b) : a < 0 ∨ z.toInt = a / b := by
  rcases (show a < 0 ∨ 0 ≤ a from by omega) with h0 | h1
  · exact Or.inl h0
  right
  subst h hx hy
  have h2 := j32 x
  have h3 : 0 ≤ x.toInt / y.toInt := Int.ediv_nonneg h1 (by omega)
  have h4 : x.toInt / y.toInt ≤ x.toInt := Int.ediv_le_self _ h1
  rw [Int32.toInt_div, Int.tdiv_eq_ediv_of_nonneg h1]
  exact Int.bmod_eq_of_le (by omega) (by omega)
theorem i_rem {x y z : Int32} {a b : Int} (h : z = x - x / y * y) (hx : x.toInt = a) (hy : y.toInt = b) (hb : 0 < b) : a < 0 ∨ z.toInt = a % b := by
  rcases (show a < 0 ∨ 0 ≤ a from by omega) with h0 | h1
  · exact Or.inl h0
  right
  have h5 : (x / y).toInt = a / b := (i_div (z := x / y) rfl hx hy hb).resolve_left (by omega)
  subst h hx hy
  have h2 := j32 x
  have h6 : 0 ≤ x.toInt % y.toInt := Int.emod_nonneg _ (by omega)
  have h8 : x.toInt % y.toInt + y.toInt * (x.toInt / y.toInt) = x.toInt := Int.emod_add_mul_ediv _ _
  have h9 : 0 ≤ y.toInt * (x.toInt / y.toInt) := Int.mul_nonneg (by omega) (Int.ediv_nonneg h1 (by omega))
  have h10 : x.toInt / y.toInt * y.toInt = y.toInt * (x.toInt / y.toInt) := Int.mul_comm _ _
  have h11 : (x.toInt / y.toInt * y.toInt).bmod 4294967296 = y.toInt * (x.toInt / y.toInt) := by
    rw [h10]
    exact Int.bmod_eq_of_le (by omega) (by omega)
  rw [Int32.toInt_sub, Int32.toInt_mul, h5]
  show (x.toInt - (x.toInt / y.toInt * y.toInt).bmod 4294967296).bmod 4294967296 = _
  rw [h11, show x.toInt - y.toInt * (x.toInt / y.toInt) = x.toInt % y.toInt by omega]
  exact Int.bmod_eq_of_le (by omega) (by omega)
theorem i_neg {x z : Int32} {a : Int} (h : z = -x) (hx : x.toInt = a) : z.toInt = -a ∨ (a = -2147483648 ∧ z.toInt = -2147483648) := by
  subst h hx
  have h1 := j32 x
  rw [Int32.toInt_neg]
  show (-x.toInt).bmod 4294967296 = -x.toInt ∨ (x.toInt = -2147483648 ∧ (-x.toInt).bmod 4294967296 = -2147483648)
  rcases i_bm (-x.toInt) (by omega) (by omega) with h | h | h
  · exact Or.inl h
  · omega
  · right; omega
theorem gh_fld {p : xH} (h : GH jGG p) {r t k : Nat} {fs : List (Value ⊕ (Int × Int))} {b : Int × Int} (hg : jgc jGG r = some (t, .inl fs)) (hf : fs[k]? = some (.inr b)) : b.1 ≤ (rI p r k).toInt ∧ (rI p r k).toInt ≤ b.2 := by
  obtain ⟨⟨t', vs⟩, h1, h2, h3, h4⟩ := h r _ hg
  obtain ⟨v, e1, e2⟩ := h4 k _ hf
  have e2 : jI 0 b.1 b.2 v := e2
  obtain ⟨x, rfl, x1, x2⟩ := e2.int
  have e3 : rV p r k = .int x := rV_at h1 e1
  unfold rI
  rw [e3]
  exact ⟨x1, x2⟩
theorem gh_row {p : xH} (h : GH jGG p) {r t k : Nat} {b : Nat × Int × Int} (hg : jgc jGG r = some (t, .inr b)) (ht : t ≠ 102) (hk : k < b.1) : b.2.1 ≤ (rI p r k).toInt ∧ (rI p r k).toInt ≤ b.2.2 := by
  obtain ⟨⟨t', vs⟩, h1, h2, h3, h4⟩ := h r _ hg
  have h3 : vs.length = b.1 := h3
  have hk2 : k < vs.length := by omega
  have e1 : vs[k]? = some vs[k] := List.getElem?_eq_getElem hk2
  have e2 := h4 vs[k] (List.getElem_mem hk2)
  have e2 : jI (if t = 102 then 1 else 0) b.2.1 b.2.2 vs[k] := e2
  rw [if_neg ht] at e2
  obtain ⟨x, hx, x1, x2⟩ := e2.int
  have e3 : rV p r k = .int x := by rw [← hx]; exact rV_at h1 e1
  unfold rI
  rw [e3]
  exact ⟨x1, x2⟩
end
section
/-! what stays as it was -/
def hF (F : List (Nat × Nat)) (r k : Nat) : Bool := F.any fun f => Nat.beq f.1 r && (Nat.beq f.2 9999 || Nat.beq f.2 k)
def hSm (F : List (Nat × Nat)) (p p1 : xH) : Prop := ∀ r k, hF F r k = true → rV p1 r k = rV p r k
theorem hSm.refl (F : List (Nat × Nat)) (p : xH) : hSm F p p := fun _ _ _ => rfl
theorem hSm.trans {F : List (Nat × Nat)} {p p1 p2 : xH} (h : hSm F p p1) (k : hSm F p1 p2) : hSm F p p2 := fun r j e => (k r j e).trans (h r j e)
theorem hSm.w {F : List (Nat × Nat)} {p p1 : xH} {r k : Nat} {v : Value} (h : hSm F p p1) (hn : hF F r k = false) : hSm F p (wV p1 r k v) := fun r' k' e => by
  rw [rV_ne (fun e1 e2 => by subst e1; subst e2; rw [hn] at e; cases e)]
  exact h r' k' e
theorem hSm.int {F : List (Nat × Nat)} {p p1 : xH} (h : hSm F p p1) {r k : Nat} (e : hF F r k = true) : rI p1 r k = rI p r k := by
  unfold rI; rw [h r k e]
theorem hSm.long {F : List (Nat × Nat)} {p p1 : xH} (h : hSm F p p1) {r k : Nat} (e : hF F r k = true) : rJ p1 r k = rJ p r k := by
  unfold rJ; rw [h r k e]
theorem hSm.sub {F F' : List (Nat × Nat)} {p p1 : xH} (h : hSm F p p1) (e : ∀ r k, hF F' r k = true → hF F r k = true) : hSm F' p p1 := fun r k z => h r k (e r k z)
theorem hF_app {F F' : List (Nat × Nat)} {r k : Nat} : hF (F ++ F') r k = (hF F r k || hF F' r k) := by unfold hF; rw [List.any_append]
theorem hSm.left {F F' : List (Nat × Nat)} {p p1 : xH} (h : hSm (F ++ F') p p1) : hSm F p p1 := h.sub (fun r k z => by rw [hF_app, z]; rfl)
theorem hSm.right {F F' : List (Nat × Nat)} {p p1 : xH} (h : hSm (F ++ F') p p1) : hSm F' p p1 := h.sub (fun r k z => by rw [hF_app, z, Bool.or_true])
def jWF (W F : List (Nat × Nat)) : Bool := F.all fun f => W.all fun w => !(Nat.beq w.1 f.1 && (Nat.beq w.2 9999 || Nat.beq f.2 9999 || Nat.beq w.2 f.2))
theorem hSm_of {W F : List (Nat × Nat)} {p0 p : xH} (h : jWf W p0 p) (e : jWF W F = true) : hSm F p0 p := by
  intro r k hk
  obtain ⟨f, hf, hf2⟩ := List.any_eq_true.mp hk
  rw [Bool.and_eq_true] at hf2
  have h1 := List.all_eq_true.mp e f hf
  have hw : jw W r k = false := by
    cases hj : jw W r k with
    | false => rfl
    | true =>
      obtain ⟨w, hw, hw2⟩ := List.any_eq_true.mp hj
      rw [Bool.and_eq_true] at hw2
      have h2 := List.all_eq_true.mp h1 w hw
      have e1 := Nat.eq_of_beq_eq_true hf2.1
      have e2 := Nat.eq_of_beq_eq_true hw2.1
      rw [e1, e2, Nat.beq_refl, Bool.true_and, Bool.not_eq_true'] at h2
      rw [Bool.or_eq_false_iff, Bool.or_eq_false_iff] at h2
      rcases Bool.or_eq_true_iff.mp hf2.2 with z | z
      · rw [z] at h2; exact absurd h2.1.2 (by simp)
      · rcases Bool.or_eq_true_iff.mp hw2.2 with y | y
        · rw [y] at h2; exact absurd h2.1.1 (by simp)
        · rw [Nat.eq_of_beq_eq_true z, Nat.eq_of_beq_eq_true y, Nat.beq_refl] at h2; exact absurd h2.2 (by simp)
  have hs : (p.map fun c => (c.1, c.2.length))[r]? = (p0.map fun c => (c.1, c.2.length))[r]? := by rw [h.1]
  rw [List.getElem?_map, List.getElem?_map] at hs
  unfold rV
  cases h3 : p0[r]? with
  | none =>
    rw [h3] at hs
    cases h4 : p[r]? with
    | none => rfl
    | some c => rw [h4] at hs; cases hs
  | some c0 =>
    rw [h3] at hs
    cases h4 : p[r]? with
    | none => rw [h4] at hs; cases hs
    | some c =>
      dsimp only
      rw [List.getD_eq_getElem?_getD, List.getD_eq_getElem?_getD, h.2 r k c0 c h3 h4 hw]
theorem ev_det {ro : List (List Int32)} {n m d : Nat} {q : xQ} {pc : Nat} {ls : xL} {st : List Value} {p : xH} {x y : Option Value × xH} (h : ev ro n d q pc ls st p = some x) (k : ev ro m d q pc ls st p = some y) : x = y := by
  have h1 := ev_mores m h
  have k1 := ev_mores n k
  rw [Nat.add_comm] at k1
  rw [h1] at k1
  exact Option.some.inj k1
/-- a call that is known by its contract: it ends, keeps bounds and relations, and what it doesn't write -/
theorem jok_fr {ro : List (List Int32)} {R : jRl} {c : jC} (h : jCok ro jGG c) {k : Nat} {F : List (Nat × Nat)} (hR : (R.all fun x => !jw c.2.2.2.2.1 x.1.1 x.1.2 && !jw c.2.2.2.2.1 x.2.1.1 x.2.1.2) = true) (hk : (c.2.2.2.2.2.all fun o => match o.1 with | some b => Nat.beq b.1 k | none => false) = true) (hF : jWF c.2.2.2.2.1 F = true) (hpre : c.2.2.2.1 = []) {q : xQ} (hq : xM[c.1]? = some q) {d : Nat} {args : List Value} {p : xH} (hd : c.2.1 ≤ d) (hp : jInv R p) (hb : jBxs c.2.2.1 args) :
    ∃ n v p', ev ro n d q 0 (lv_args 0 args) [] p = some (some v, p') ∧ jInv R p' ∧ jk v = k ∧ (p'.map fun c => (c.1, c.2.length)) = (p.map fun c => (c.1, c.2.length)) ∧ hSm F p p' := by
  obtain ⟨n, v, p', e1, e2, e3, e4⟩ := jok_inv h hR hk hpre hq hd hp hb
  obtain ⟨n2, r2, p2, f1, f2, f3, -⟩ := h q hq d args p hd hp.1 hb (fun f hf => by rw [hpre] at hf; exact absurd hf List.not_mem_nil)
  have := ev_det e1 f1
  cases this
  exact ⟨n, v, p', e1, e2, e3, e4, hSm_of f3 hF⟩
theorem rV_set {p : xH} {a b j : Nat} {v : Value} (hw : hW p) (hT1 : hT a j = some (jk v)) (hab : a ≠ b) (ha : j < hL a) (hb : j < hL b) (h : ∀ k, rV p a k = rV p b k) : ∀ k, rV (wV (wV p a j v) b j v) a k = rV (wV (wV p a j v) b j v) b k := by
  intro k
  rw [rV_ne (fun e => absurd e hab)]
  by_cases hk : k = j
  · subst hk
    rw [rV_eq hw ha, rV_eq (hW_wV hw hT1) hb]
  · rw [rV_ne (fun _ => hk), rV_ne (fun _ => hk), rV_ne (fun e => absurd e (Ne.symm hab))]
    exact h k
/-- one row has become so, nothing else has changed -/
def hOn (r : Nat) (f : Nat → Value) (p p2 : xH) : Prop := (∀ r' j, r' ≠ r → rV p2 r' j = rV p r' j) ∧ ∀ j, rV p2 r j = f j
theorem hOn.refl (r : Nat) (p : xH) : hOn r (rV p r) p p := ⟨fun _ _ _ => rfl, fun _ => rfl⟩
theorem rV_w {p : xH} {r k : Nat} {v : Value} (hw : hW p) (hk : k < hL r) (j : Nat) : rV (wV p r k v) r j = if j = k then v else rV p r j := by
  by_cases h : j = k
  · subst h; rw [if_pos rfl, rV_eq hw hk]
  · rw [if_neg h, rV_ne (fun _ => h)]
theorem hOn.w {r k : Nat} {f : Nat → Value} {p p1 : xH} {v : Value} (h : hOn r f p p1) (hw : hW p1) (hk : k < hL r) : hOn r (fun j => if j = k then v else f j) p (wV p1 r k v) :=
  ⟨fun r' j hr => by rw [rV_ne (fun e => absurd e hr)]; exact h.1 r' j hr, fun j => by rw [rV_w hw hk, h.2 j]⟩
theorem hOn.eq {r : Nat} {f g : Nat → Value} {p p1 : xH} (h : hOn r f p p1) (e : ∀ j, f j = g j) : hOn r g p p1 := ⟨h.1, fun j => (h.2 j).trans (e j)⟩
theorem hOn.int {r : Nat} {f : Nat → Value} {p p1 : xH} (h : hOn r f p p1) {r' j : Nat} (hr : r' ≠ r) : rI p1 r' j = rI p r' j := by unfold rI; rw [h.1 r' j hr]
theorem hOn.long {r : Nat} {f : Nat → Value} {p p1 : xH} (h : hOn r f p p1) {r' j : Nat} (hr : r' ≠ r) : rJ p1 r' j = rJ p r' j := by unfold rJ; rw [h.1 r' j hr]
theorem hSm.on {F : List (Nat × Nat)} {p p1 p2 : xH} {r : Nat} {f : Nat → Value} (h : hSm F p p1) (k : hOn r f p1 p2) (hn : ∀ j, hF F r j = false) : hSm F p p2 := fun r' j e => by
  rw [k.1 r' j (fun z => by rw [z, hn] at e; cases e)]
  exact h r' j e
theorem if_fill {a b b' i j : Nat} {u w : Value} (hi : i = b) (hb : b' = b + 1) (hab : a ≤ b) : (if j = i then u else if a ≤ j ∧ j < b then u else w) = if a ≤ j ∧ j < b' then u else w := by
  by_cases h1 : j = i
  · rw [if_pos h1, if_pos (by omega)]
  · rw [if_neg h1]
    by_cases h2 : a ≤ j ∧ j < b
    · rw [if_pos h2, if_pos (by omega)]
    · rw [if_neg h2, if_neg (by omega)]
end
section
/-! contracts of methods, walked -/
theorem s_isKind {ro : List (List Int32)} {n d : Nat} {p : xH} {Q : Option Value → xH → Prop} {x : Int32} {xi : Int} (hx : x.toInt = xi)  (k0 : (0 ≤ xi) → (xi < 8) → Q (some (.int (1))) p) (k1 : (¬ (0 ≤ xi ∧ xi < 8)) → Q (some (.int (0))) p) : hP ro n d (9, 1, 0, 2, k108) 0 (lv_args 0 [.int x]) [] p Q := by
  subst hx
  refine hp_id (ls := [(0, .int x)]) ?_
  refine hp_s (pc' := 1) (st' := [.int x]) rfl rfl rfl ?_
  refine hp_if (pc' := 4) (t := 14) (a := x.toInt) rfl rfl rfl rfl (fun (h1 : x.toInt < 0) => ?_) (fun (h2 : ¬ (x.toInt < 0)) => ?_)
  ·
    refine hp_s (pc' := 15) (st' := [.int 0]) rfl rfl rfl ?_
    refine hp_rb rfl rfl (fun _ => ?_)
    exact k1 (by first | assumption | omega)
  ·
    refine hp_s (pc' := 5) (st' := [.int x]) rfl rfl rfl ?_
    refine hp_s (pc' := 7) (st' := [.int 8, .int x]) rfl rfl rfl ?_
    refine hp_ic (pc' := 10) (t := 14) (a := x.toInt) (b := 8) rfl rfl rfl rfl (by decide) (fun (h3 : 8 ≤ x.toInt) => ?_) (fun (h4 : ¬ (8 ≤ x.toInt)) => ?_)
    ·
      refine hp_s (pc' := 15) (st' := [.int 0]) rfl rfl rfl ?_
      refine hp_rb rfl rfl (fun _ => ?_)
      exact k1 (by first | assumption | omega)
    ·
      refine hp_s (pc' := 11) (st' := [.int 1]) rfl rfl rfl ?_
      refine hp_go (pc' := 15) rfl rfl rfl ?_
      refine hp_rb rfl rfl (fun _ => ?_)
      exact k0 (by first | assumption | omega) (by first | assumption | omega)
theorem s_hasT {ro : List (List Int32)} {n d : Nat} {p : xH} {Q : Option Value → xH → Prop} {x : Int32} {xi : Int} (hx : x.toInt = xi)  (k0 : (0 ≤ xi) → (xi < (rI p 57 1).toInt) → Q (some (.int (1))) p) (k1 : (¬ (0 ≤ xi ∧ xi < (rI p 57 1).toInt)) → Q (some (.int (0))) p) : hP ro n d (9, 2, 1, 2, k110) 0 (lv_args 0 [.ref 57, .int x]) [] p Q := by
  subst hx
  refine hp_id (ls := [(0, .ref 57), (1, .int x)]) ?_
  refine hp_s (pc' := 1) (st' := [.int x]) rfl rfl rfl ?_
  refine hp_if (pc' := 4) (t := 16) (a := x.toInt) rfl rfl rfl rfl (fun (h1 : x.toInt < 0) => ?_) (fun (h2 : ¬ (x.toInt < 0)) => ?_)
  ·
    refine hp_s (pc' := 17) (st' := [.int 0]) rfl rfl rfl ?_
    refine hp_rb rfl rfl (fun _ => ?_)
    exact k1 (by first | assumption | omega)
  ·
    refine hp_s (pc' := 5) (st' := [.int x]) rfl rfl rfl ?_
    refine hp_s (pc' := 6) (st' := [.ref 57, .int x]) rfl rfl rfl ?_
    refine hp_get (k := 1) (pc' := 9) (v := (rI p 57 1)) rfl rfl rfl rfl rfl rfl ?_
    refine hp_ic (pc' := 12) (t := 16) (a := x.toInt) (b := (rI p 57 1).toInt) rfl rfl rfl rfl rfl (fun (h3 : (rI p 57 1).toInt ≤ x.toInt) => ?_) (fun (h4 : ¬ ((rI p 57 1).toInt ≤ x.toInt)) => ?_)
    ·
      refine hp_s (pc' := 17) (st' := [.int 0]) rfl rfl rfl ?_
      refine hp_rb rfl rfl (fun _ => ?_)
      exact k1 (by first | assumption | omega)
    ·
      refine hp_s (pc' := 13) (st' := [.int 1]) rfl rfl rfl ?_
      refine hp_go (pc' := 17) rfl rfl rfl ?_
      refine hp_rb rfl rfl (fun _ => ?_)
      exact k0 (by first | assumption | omega) (by first | assumption | omega)
theorem s_addT {ro : List (List Int32)} {n d : Nat} {p : xH} {Q : Option Value → xH → Prop} {x : Int32} {xi : Int} (hx : x.toInt = xi)  (k0 : (50 ≤ (rI p 57 1).toInt) → Q (some (.int (-3))) p) (k1 : ∀ z : Int32, ∀ p2 : xH, p2 = (wV (wV p 58 ((rI p 57 1).toInt.toNat) (.int x)) 57 1 (.int (rI p 57 1 + 1))) → (0 ≤ (rI p 57 1).toInt) → ((rI p 57 1).toInt < 50) → (z.toInt = (rI p 57 1).toInt) → Q (some (.int z)) p2) : hP ro n d (9, 2, 1, 1, k111) 0 (lv_args 0 [.ref 57, .int x]) [] p Q := by
  subst hx
  refine hp_id (ls := [(0, .ref 57), (1, .int x)]) ?_
  refine hp_s (pc' := 1) (st' := [.ref 57]) rfl rfl rfl ?_
  refine hp_get (k := 1) (pc' := 4) (v := (rI p 57 1)) rfl rfl rfl rfl rfl rfl ?_
  refine hp_s (pc' := 6) (st' := [.int 50, .int (rI p 57 1)]) rfl rfl rfl ?_
  refine hp_ic (pc' := 9) (t := 12) (a := (rI p 57 1).toInt) (b := 50) rfl rfl rfl rfl (by decide) (fun (h1 : (rI p 57 1).toInt < 50) => ?_) (fun (h2 : ¬ ((rI p 57 1).toInt < 50)) => ?_)
  ·
    refine hp_s (pc' := 13) (st' := [.ref 57]) rfl rfl rfl ?_
    refine hp_getr (k := 0) (w := .ref 58) (pc' := 16) rfl rfl rfl rfl rfl ?_
    refine hp_s (pc' := 17) (st' := [.ref 57, .ref 58]) rfl rfl rfl ?_
    refine hp_get (k := 1) (pc' := 20) (v := (rI p 57 1)) rfl rfl rfl rfl rfl rfl ?_
    refine hp_s (pc' := 21) (st' := [.int x, .int (rI p 57 1), .ref 58]) rfl rfl rfl ?_
    refine hp_st (t := 100) rfl (.inl rfl) rfl rfl ?_
    intro p1 wp1 (p1a : 0 ≤ (rI p 57 1).toInt) (p1b : (rI p 57 1).toInt < 50) ep1
    refine hp_s (pc' := 23) (st' := [.ref 57]) rfl rfl rfl ?_
    refine hp_s (pc' := 24) (st' := [.ref 57, .ref 57]) rfl rfl rfl ?_
    refine hp_get (k := 1) (pc' := 27) (v := (rI p 57 1)) rfl rfl rfl rfl rfl (by rw [ep1, rI_o (by decide)]) ?_
    refine hp_s (pc' := 28) (st' := [.int 1, .int (rI p 57 1), .ref 57]) rfl rfl rfl ?_
    refine hp_z (pc' := 29) (e := (rI p 57 1) + 1) (st' := [.ref 57]) rfl rfl rfl ?_
    intro z1 hz1
    have ez1 := i_add hz1 (show (rI p 57 1).toInt = (rI p 57 1).toInt from rfl) (show (1 : Int32).toInt = 1 from by decide)
    refine hp_put (k := 1) (pc' := 32) rfl rfl rfl rfl rfl ?_
    intro p2 wp2 ep2
    refine hp_s (pc' := 33) (st' := [.ref 57]) rfl rfl rfl ?_
    refine hp_get (k := 1) (pc' := 36) (v := z1) rfl rfl rfl rfl rfl (by rw [ep2, rI_eq wp2 (by decide)]) ?_
    refine hp_s (pc' := 37) (st' := [.int 1, .int z1]) rfl rfl rfl ?_
    refine hp_z (pc' := 38) (e := z1 - 1) (st' := []) rfl rfl rfl ?_
    intro z2 hz2
    have ez2 := i_sub hz2 (show z1.toInt = z1.toInt from rfl) (show (1 : Int32).toInt = 1 from by decide)
    refine hp_ri rfl rfl ?_
    first | (exact k0 (by first | assumption | omega)) | (exact k1 _ _ (by subst_vars; rfl) (by first | assumption | omega) (by first | assumption | omega) (by first | assumption | omega))
  ·
    refine hp_s (pc' := 11) (st' := [.int (-3)]) rfl rfl rfl ?_
    refine hp_ri rfl rfl ?_
    first | (exact k0 (by first | assumption | omega)) | (exact k1 _ _ (by subst_vars; rfl) (by first | assumption | omega) (by first | assumption | omega) (by first | assumption | omega))
theorem X_body {ro : List (List Int32)} {n d : Nat} {p : xH} {Q : Option Value → xH → Prop} {x : Int32} {xi : Int} (hx : x.toInt = xi)  (k0 : (¬ (0 ≤ xi ∧ xi < 8)) → Q (some (.int (-1))) p) (k1 : (0 ≤ xi) → (xi < 8) → (50 ≤ (rI p 57 1).toInt) → Q (some (.int (-3))) p) (k2 : ∀ z : Int32, ∀ p2 : xH, p2 = (wV (wV p 58 ((rI p 57 1).toInt.toNat) (.int x)) 57 1 (.int (rI p 57 1 + 1))) → (0 ≤ xi) → (xi < 8) → (0 ≤ (rI p 57 1).toInt) → ((rI p 57 1).toInt < 50) → (z.toInt = (rI p 57 1).toInt) → Q (some (.int z)) p2) : hP ro n d (11, 2, 1, 1, k162) 0 (lv_args 0 [.ref 0, .int x]) [] p Q := by
  subst hx
  refine hp_id (ls := [(0, .ref 0), (1, .int x)]) ?_
  refine hp_s (pc' := 1) (st' := [.int x]) rfl rfl rfl ?_
  refine hp_cs (kd := 0) (as := [.int x]) (rest := []) (pc' := 4) rfl rfl rfl rfl rfl rfl rfl (fun d1 => ?_)
  refine s_isKind (xi := x.toInt) rfl ?_ ?_
  ·
    intro h1 h2
    refine hp_id (st := [.int 1]) ?_
    refine hp_go (pc' := 9) rfl rfl rfl ?_
    refine hp_s (pc' := 10) (st' := [.ref 0]) rfl rfl rfl ?_
    refine hp_getr (k := 12) (w := .ref 57) (pc' := 13) rfl rfl rfl rfl rfl ?_
    refine hp_s (pc' := 14) (st' := [.int x, .ref 57]) rfl rfl rfl ?_
    refine hp_cv (r := 57) (o := 9) (kd := 1) (as := [.int x]) (rest := []) (pc' := 17) rfl rfl rfl rfl rfl rfl rfl rfl rfl (fun d2 => ?_)
    refine s_addT (xi := x.toInt) rfl ?_ ?_
    ·
      intro h3
      refine hp_id (st := [.int (-3)]) ?_
      refine hp_ri rfl rfl ?_
      first | (exact k1 (by first | assumption | omega) (by first | assumption | omega) (by first | assumption | omega)) | (exact k2 _ _ (by subst_vars; rfl) (by first | assumption | omega) (by first | assumption | omega) (by first | assumption | omega) (by first | assumption | omega) (by first | assumption | omega))
    ·
      intro y1 p1 ep1 h4 h5 h6
      refine hp_id (st := [.int y1]) ?_
      refine hp_ri rfl rfl ?_
      first | (exact k0 (by first | assumption | omega)) | (exact k1 (by first | assumption | omega) (by first | assumption | omega) (by first | assumption | omega)) | (exact k2 _ _ (by subst_vars; rfl) (by first | assumption | omega) (by first | assumption | omega) (by first | assumption | omega) (by first | assumption | omega) (by first | assumption | omega))
  ·
    intro h7
    refine hp_id (st := [.int 0]) ?_
    refine hp_go (pc' := 7) rfl rfl rfl ?_
    refine hp_s (pc' := 8) (st' := [.int (-1)]) rfl rfl rfl ?_
    refine hp_ri rfl rfl ?_
    first | (exact k0 (by first | assumption | omega)) | (exact k2 _ _ (by subst_vars; rfl) (by first | assumption | omega) (by first | assumption | omega) (by first | assumption | omega) (by first | assumption | omega) (by first | assumption | omega))
theorem s_within {ro : List (List Int32)} {n d : Nat} {p : xH} {Q : Option Value → xH → Prop} {v : Int64} {vi : Int} {a : Int64} {ai : Int} {b : Int64} {bi : Int} (hv : v.toInt = vi) (ha : a.toInt = ai) (hb : b.toInt = bi)  (k0 : (ai ≤ vi) → (vi ≤ bi) → Q (some (.int (1))) p) (k1 : (¬ (ai ≤ vi ∧ vi ≤ bi)) → Q (some (.int (0))) p) : hP ro n d (12, 6, 0, 2, k174) 0 (lv_args 0 [.long v, .long a, .long b]) [] p Q := by
  subst hv
  subst ha
  subst hb
  refine hp_id (ls := [(0, .long v), (2, .long a), (4, .long b)]) ?_
  refine hp_s (pc' := 1) (st' := [.long v]) rfl rfl rfl ?_
  refine hp_s (pc' := 2) (st' := [.long a, .long v]) rfl rfl rfl ?_
  refine hp_lc (pc' := 6) (t := 17) (a := v.toInt) (b := a.toInt) rfl rfl rfl rfl rfl rfl (fun (h1 : v.toInt < a.toInt) => ?_) (fun (h2 : ¬ (v.toInt < a.toInt)) => ?_)
  ·
    refine hp_s (pc' := 18) (st' := [.int 0]) rfl rfl rfl ?_
    refine hp_rb rfl rfl (fun _ => ?_)
    exact k1 (by first | assumption | omega)
  ·
    refine hp_s (pc' := 7) (st' := [.long v]) rfl rfl rfl ?_
    refine hp_s (pc' := 9) (st' := [.long b, .long v]) rfl rfl rfl ?_
    refine hp_lc (pc' := 13) (t := 17) (a := v.toInt) (b := b.toInt) rfl rfl rfl rfl rfl rfl (fun (h3 : b.toInt < v.toInt) => ?_) (fun (h4 : ¬ (b.toInt < v.toInt)) => ?_)
    ·
      refine hp_s (pc' := 18) (st' := [.int 0]) rfl rfl rfl ?_
      refine hp_rb rfl rfl (fun _ => ?_)
      exact k1 (by first | assumption | omega)
    ·
      refine hp_s (pc' := 14) (st' := [.int 1]) rfl rfl rfl ?_
      refine hp_go (pc' := 18) rfl rfl rfl ?_
      refine hp_rb rfl rfl (fun _ => ?_)
      exact k0 (by first | assumption | omega) (by first | assumption | omega)
theorem M_body {ro : List (List Int32)} {n d : Nat} {p : xH} {Q : Option Value → xH → Prop} {x : Int32} {xi : Int} (hx : x.toInt = xi)  (k0 : (¬ (0 ≤ xi ∧ xi < 8)) → Q (some (.int (-1))) p) (k1 : (0 ≤ xi) → (xi < 8) → ((rI p 66 44).toInt = 50) → Q (some (.int (-3))) p) (k2 : ∀ z : Int32, ∀ p2 : xH, p2 = (wV (wV p 95 ((rI p 66 44).toInt.toNat) (.int x)) 66 44 (.int (rI p 66 44 + 1))) → (0 ≤ xi) → (xi < 8) → (0 ≤ (rI p 66 44).toInt) → ((rI p 66 44).toInt < 50) → (z.toInt = (rI p 66 44).toInt) → Q (some (.int z)) p2) : hP ro n d (12, 2, 1, 1, k254) 0 (lv_args 0 [.ref 66, .int x]) [] p Q := by
  subst hx
  refine hp_id (ls := [(0, .ref 66), (1, .int x)]) ?_
  refine hp_s (pc' := 1) (st' := [.int x]) rfl rfl rfl ?_
  refine hp_i2l (pc' := 2) rfl rfl ?_
  intro z1 hz1 ez1
  refine hp_s (pc' := 3) (st' := [.long 0, .long z1]) rfl rfl rfl ?_
  refine hp_s (pc' := 6) (st' := [.long 7, .long 0, .long z1]) rfl rfl rfl ?_
  refine hp_cs (kd := 0) (as := [.long z1, .long 0, .long 7]) (rest := []) (pc' := 9) rfl rfl rfl rfl rfl rfl rfl (fun d1 => ?_)
  refine s_within (vi := x.toInt) ez1 (ai := 0) (by decide) (bi := 7) (by decide) ?_ ?_
  ·
    intro h1 h2
    refine hp_id (st := [.int 1]) ?_
    refine hp_go (pc' := 14) rfl rfl rfl ?_
    refine hp_s (pc' := 15) (st' := [.ref 66]) rfl rfl rfl ?_
    refine hp_get (k := 44) (pc' := 18) (v := (rI p 66 44)) rfl rfl rfl rfl rfl rfl ?_
    refine hp_s (pc' := 20) (st' := [.int 50, .int (rI p 66 44)]) rfl rfl rfl ?_
    refine hp_ic (pc' := 23) (t := 26) (a := (rI p 66 44).toInt) (b := 50) rfl rfl rfl rfl (by decide) (fun (h3 : (rI p 66 44).toInt ≠ 50) => ?_) (fun (h4 : ¬ ((rI p 66 44).toInt ≠ 50)) => ?_)
    ·
      refine hp_s (pc' := 27) (st' := [.ref 66]) rfl rfl rfl ?_
      refine hp_getr (k := 45) (w := .ref 95) (pc' := 30) rfl rfl rfl rfl rfl ?_
      refine hp_s (pc' := 31) (st' := [.ref 66, .ref 95]) rfl rfl rfl ?_
      refine hp_get (k := 44) (pc' := 34) (v := (rI p 66 44)) rfl rfl rfl rfl rfl rfl ?_
      refine hp_s (pc' := 35) (st' := [.int x, .int (rI p 66 44), .ref 95]) rfl rfl rfl ?_
      refine hp_st (t := 100) rfl (.inl rfl) rfl rfl ?_
      intro p1 wp1 (p1a : 0 ≤ (rI p 66 44).toInt) (p1b : (rI p 66 44).toInt < 50) ep1
      refine hp_s (pc' := 37) (st' := [.ref 66]) rfl rfl rfl ?_
      refine hp_s (pc' := 38) (st' := [.ref 66, .ref 66]) rfl rfl rfl ?_
      refine hp_get (k := 44) (pc' := 41) (v := (rI p 66 44)) rfl rfl rfl rfl rfl (by rw [ep1, rI_o (by decide)]) ?_
      refine hp_s (pc' := 42) (st' := [.int 1, .int (rI p 66 44), .ref 66]) rfl rfl rfl ?_
      refine hp_z (pc' := 43) (e := (rI p 66 44) + 1) (st' := [.ref 66]) rfl rfl rfl ?_
      intro z2 hz2
      have ez2 := i_add hz2 (show (rI p 66 44).toInt = (rI p 66 44).toInt from rfl) (show (1 : Int32).toInt = 1 from by decide)
      refine hp_put (k := 44) (pc' := 46) rfl rfl rfl rfl rfl ?_
      intro p2 wp2 ep2
      refine hp_s (pc' := 47) (st' := [.ref 66]) rfl rfl rfl ?_
      refine hp_get (k := 44) (pc' := 50) (v := z2) rfl rfl rfl rfl rfl (by rw [ep2, rI_eq wp2 (by decide)]) ?_
      refine hp_s (pc' := 51) (st' := [.int 1, .int z2]) rfl rfl rfl ?_
      refine hp_z (pc' := 52) (e := z2 - 1) (st' := []) rfl rfl rfl ?_
      intro z3 hz3
      have ez3 := i_sub hz3 (show z2.toInt = z2.toInt from rfl) (show (1 : Int32).toInt = 1 from by decide)
      refine hp_ri rfl rfl ?_
      first | (exact k0 (by first | assumption | omega)) | (exact k1 (by first | assumption | omega) (by first | assumption | omega) (by first | assumption | omega)) | (exact k2 _ _ (by subst_vars; rfl) (by first | assumption | omega) (by first | assumption | omega) (by first | assumption | omega) (by first | assumption | omega) (by first | assumption | omega))
    ·
      refine hp_s (pc' := 25) (st' := [.int (-3)]) rfl rfl rfl ?_
      refine hp_ri rfl rfl ?_
      first | (exact k1 (by first | assumption | omega) (by first | assumption | omega) (by first | assumption | omega)) | (exact k2 _ _ (by subst_vars; rfl) (by first | assumption | omega) (by first | assumption | omega) (by first | assumption | omega) (by first | assumption | omega) (by first | assumption | omega))
  ·
    intro h5
    refine hp_id (st := [.int 0]) ?_
    refine hp_go (pc' := 12) rfl rfl rfl ?_
    refine hp_s (pc' := 13) (st' := [.int (-1)]) rfl rfl rfl ?_
    refine hp_ri rfl rfl ?_
    first | (exact k0 (by first | assumption | omega)) | (exact k2 _ _ (by subst_vars; rfl) (by first | assumption | omega) (by first | assumption | omega) (by first | assumption | omega) (by first | assumption | omega) (by first | assumption | omega))
theorem s_isShelfM {ro : List (List Int32)} {n d : Nat} {p : xH} {Q : Option Value → xH → Prop} {x : Int32} {xi : Int} (hx : x.toInt = xi)  (k0 : (0 ≤ xi) → (xi < 6) → Q (some (.int (1))) p) (k1 : (¬ (0 ≤ xi ∧ xi < 6)) → Q (some (.int (0))) p) : hP ro n d (12, 1, 0, 2, k263) 0 (lv_args 0 [.int x]) [] p Q := by
  subst hx
  refine hp_id (ls := [(0, .int x)]) ?_
  refine hp_s (pc' := 1) (st' := [.int x]) rfl rfl rfl ?_
  refine hp_i2l (pc' := 2) rfl rfl ?_
  intro z1 hz1 ez1
  refine hp_s (pc' := 3) (st' := [.long 0, .long z1]) rfl rfl rfl ?_
  refine hp_s (pc' := 6) (st' := [.long 5, .long 0, .long z1]) rfl rfl rfl ?_
  refine hp_cs (kd := 0) (as := [.long z1, .long 0, .long 5]) (rest := []) (pc' := 9) rfl rfl rfl rfl rfl rfl rfl (fun d1 => ?_)
  refine s_within (vi := x.toInt) ez1 (ai := 0) (by decide) (bi := 5) (by decide) ?_ ?_
  ·
    intro h1 h2
    refine hp_id (st := [.int 1]) ?_
    refine hp_rb rfl rfl (fun _ => ?_)
    exact k0 (by first | assumption | omega) (by first | assumption | omega)
  ·
    intro h3
    refine hp_id (st := [.int 0]) ?_
    refine hp_rb rfl rfl (fun _ => ?_)
    exact k1 (by first | assumption | omega)
theorem s_isBody {ro : List (List Int32)} {n d : Nat} {p : xH} {Q : Option Value → xH → Prop} {x : Int32} {xi : Int} (hx : x.toInt = xi) (pre0 : 0 ≤ (rI p 66 44).toInt) (k0 : (0 ≤ xi) → (xi < (rI p 66 44).toInt) → Q (some (.int (1))) p) (k1 : (¬ (0 ≤ xi ∧ xi < (rI p 66 44).toInt)) → Q (some (.int (0))) p) : hP ro n d (12, 2, 1, 2, k252) 0 (lv_args 0 [.ref 66, .int x]) [] p Q := by
  subst hx
  refine hp_id (ls := [(0, .ref 66), (1, .int x)]) ?_
  refine hp_s (pc' := 1) (st' := [.int x]) rfl rfl rfl ?_
  refine hp_i2l (pc' := 2) rfl rfl ?_
  intro z1 hz1 ez1
  refine hp_s (pc' := 3) (st' := [.long 0, .long z1]) rfl rfl rfl ?_
  refine hp_s (pc' := 4) (st' := [.ref 66, .long 0, .long z1]) rfl rfl rfl ?_
  refine hp_get (k := 44) (pc' := 7) (v := (rI p 66 44)) rfl rfl rfl rfl rfl rfl ?_
  refine hp_s (pc' := 8) (st' := [.int 1, .int (rI p 66 44), .long 0, .long z1]) rfl rfl rfl ?_
  refine hp_z (pc' := 9) (e := (rI p 66 44) - 1) (st' := [.long 0, .long z1]) rfl rfl rfl ?_
  intro z2 hz2
  have ez2 := i_sub hz2 (show (rI p 66 44).toInt = (rI p 66 44).toInt from rfl) (show (1 : Int32).toInt = 1 from by decide)
  refine hp_i2l (pc' := 10) rfl rfl ?_
  intro z3 hz3 ez3
  refine hp_cs (kd := 0) (as := [.long z1, .long 0, .long z3]) (rest := []) (pc' := 13) rfl rfl rfl rfl rfl rfl rfl (fun d1 => ?_)
  refine s_within (vi := x.toInt) ez1 (ai := 0) (by decide) (bi := z2.toInt) ez3 ?_ ?_
  ·
    intro h1 h2
    refine hp_id (st := [.int 1]) ?_
    refine hp_rb rfl rfl (fun _ => ?_)
    exact k0 (by first | assumption | omega) (by first | assumption | omega)
  ·
    intro h3
    refine hp_id (st := [.int 0]) ?_
    refine hp_rb rfl rfl (fun _ => ?_)
    exact k1 (by first | assumption | omega)
theorem s_isShelf {ro : List (List Int32)} {n d : Nat} {p : xH} {Q : Option Value → xH → Prop} {x : Int32} {xi : Int} (hx : x.toInt = xi)  (k0 : (0 ≤ xi) → (xi < 6) → Q (some (.int (1))) p) (k1 : (¬ (0 ≤ xi ∧ xi < 6)) → Q (some (.int (0))) p) : hP ro n d (6, 2, 1, 2, k66) 0 (lv_args 0 [.ref 60, .int x]) [] p Q := by
  subst hx
  refine hp_id (ls := [(0, .ref 60), (1, .int x)]) ?_
  refine hp_s (pc' := 1) (st' := [.int x]) rfl rfl rfl ?_
  refine hp_if (pc' := 4) (t := 14) (a := x.toInt) rfl rfl rfl rfl (fun (h1 : x.toInt < 0) => ?_) (fun (h2 : ¬ (x.toInt < 0)) => ?_)
  ·
    refine hp_s (pc' := 15) (st' := [.int 0]) rfl rfl rfl ?_
    refine hp_rb rfl rfl (fun _ => ?_)
    exact k1 (by first | assumption | omega)
  ·
    refine hp_s (pc' := 5) (st' := [.int x]) rfl rfl rfl ?_
    refine hp_s (pc' := 7) (st' := [.int 6, .int x]) rfl rfl rfl ?_
    refine hp_ic (pc' := 10) (t := 14) (a := x.toInt) (b := 6) rfl rfl rfl rfl (by decide) (fun (h3 : 6 ≤ x.toInt) => ?_) (fun (h4 : ¬ (6 ≤ x.toInt)) => ?_)
    ·
      refine hp_s (pc' := 15) (st' := [.int 0]) rfl rfl rfl ?_
      refine hp_rb rfl rfl (fun _ => ?_)
      exact k1 (by first | assumption | omega)
    ·
      refine hp_s (pc' := 11) (st' := [.int 1]) rfl rfl rfl ?_
      refine hp_go (pc' := 15) rfl rfl rfl ?_
      refine hp_rb rfl rfl (fun _ => ?_)
      exact k0 (by first | assumption | omega) (by first | assumption | omega)
theorem s_holdTwin {ro : List (List Int32)} {n d : Nat} {p : xH} {Q : Option Value → xH → Prop} {x : Int32} {xi : Int} {y : Int32} {yi : Int} (hx : x.toInt = xi) (hy : y.toInt = yi)  (k0 : ∀ p2 : xH, p2 = (wV (wV p 61 xi.toNat (.int 0)) 62 xi.toNat (.int y)) → (0 ≤ xi) → (xi < 6) → (yi = -1) → Q (some (.int (1))) p2) (k1 : ∀ p2 : xH, p2 = (wV (wV p 61 xi.toNat (.int 1)) 62 xi.toNat (.int y)) → (0 ≤ xi) → (xi < 6) → (yi ≠ -1) → Q (some (.int (1))) p2) : hP ro n d (6, 3, 1, 1, k72) 0 (lv_args 0 [.ref 60, .int x, .int y]) [] p Q := by
  subst hx
  subst hy
  refine hp_id (ls := [(0, .ref 60), (1, .int x), (2, .int y)]) ?_
  refine hp_s (pc' := 1) (st' := [.ref 60]) rfl rfl rfl ?_
  refine hp_getr (k := 0) (w := .ref 61) (pc' := 4) rfl rfl rfl rfl rfl ?_
  refine hp_s (pc' := 5) (st' := [.int x, .ref 61]) rfl rfl rfl ?_
  refine hp_s (pc' := 6) (st' := [.int y, .int x, .ref 61]) rfl rfl rfl ?_
  refine hp_s (pc' := 7) (st' := [.int (-1), .int y, .int x, .ref 61]) rfl rfl rfl ?_
  refine hp_ic (pc' := 10) (t := 14) (a := y.toInt) (b := (-1)) rfl rfl rfl rfl (by decide) (fun (h1 : y.toInt ≠ (-1)) => ?_) (fun (h2 : ¬ (y.toInt ≠ (-1))) => ?_)
  ·
    refine hp_s (pc' := 15) (st' := [.int 1, .int x, .ref 61]) rfl rfl rfl ?_
    refine hp_st (t := 100) rfl (.inl rfl) rfl rfl ?_
    intro p1 wp1 (p1a : 0 ≤ x.toInt) (p1b : x.toInt < 6) ep1
    refine hp_s (pc' := 17) (st' := [.ref 60]) rfl rfl rfl ?_
    refine hp_getr (k := 1) (w := .ref 62) (pc' := 20) rfl rfl rfl rfl rfl ?_
    refine hp_s (pc' := 21) (st' := [.int x, .ref 62]) rfl rfl rfl ?_
    refine hp_s (pc' := 22) (st' := [.int y, .int x, .ref 62]) rfl rfl rfl ?_
    refine hp_st (t := 100) rfl (.inl rfl) rfl rfl ?_
    intro p2 wp2 (p2a : 0 ≤ x.toInt) (p2b : x.toInt < 6) ep2
    refine hp_s (pc' := 24) (st' := [.int 1]) rfl rfl rfl ?_
    refine hp_ri rfl rfl ?_
    first | (exact k0 _ (by subst_vars; rfl) (by first | assumption | omega) (by first | assumption | omega) (by first | assumption | omega)) | (exact k1 _ (by subst_vars; rfl) (by first | assumption | omega) (by first | assumption | omega) (by first | assumption | omega))
  ·
    refine hp_s (pc' := 11) (st' := [.int 0, .int x, .ref 61]) rfl rfl rfl ?_
    refine hp_go (pc' := 15) rfl rfl rfl ?_
    refine hp_st (t := 100) rfl (.inl rfl) rfl rfl ?_
    intro p3 wp3 (p3a : 0 ≤ x.toInt) (p3b : x.toInt < 6) ep3
    refine hp_s (pc' := 17) (st' := [.ref 60]) rfl rfl rfl ?_
    refine hp_getr (k := 1) (w := .ref 62) (pc' := 20) rfl rfl rfl rfl rfl ?_
    refine hp_s (pc' := 21) (st' := [.int x, .ref 62]) rfl rfl rfl ?_
    refine hp_s (pc' := 22) (st' := [.int y, .int x, .ref 62]) rfl rfl rfl ?_
    refine hp_st (t := 100) rfl (.inl rfl) rfl rfl ?_
    intro p4 wp4 (p4a : 0 ≤ x.toInt) (p4b : x.toInt < 6) ep4
    refine hp_s (pc' := 24) (st' := [.int 1]) rfl rfl rfl ?_
    refine hp_ri rfl rfl ?_
    first | (exact k0 _ (by subst_vars; rfl) (by first | assumption | omega) (by first | assumption | omega) (by first | assumption | omega)) | (exact k1 _ (by subst_vars; rfl) (by first | assumption | omega) (by first | assumption | omega) (by first | assumption | omega))
theorem X_keep {ro : List (List Int32)} {n d : Nat} {p : xH} {Q : Option Value → xH → Prop} {x : Int32} {xi : Int} {y : Int32} {yi : Int} (hx : x.toInt = xi) (hy : y.toInt = yi)  (k0 : (¬ (0 ≤ xi ∧ xi < 6 ∧ (yi = -1 ∨ 0 ≤ yi ∧ yi < (rI p 57 1).toInt))) → Q (some (.int (-1))) p) (k1 : ∀ p2 : xH, p2 = (wV (wV p 61 xi.toNat (.int 0)) 62 xi.toNat (.int y)) → (0 ≤ xi) → (xi < 6) → (yi = -1) → Q (some (.int (1))) p2) (k2 : ∀ p2 : xH, p2 = (wV (wV p 61 xi.toNat (.int 1)) 62 xi.toNat (.int y)) → (0 ≤ xi) → (xi < 6) → (0 ≤ yi) → (yi < (rI p 57 1).toInt) → Q (some (.int (1))) p2) : hP ro n d (11, 3, 1, 1, k165) 0 (lv_args 0 [.ref 0, .int x, .int y]) [] p Q := by
  subst hx
  subst hy
  refine hp_id (ls := [(0, .ref 0), (1, .int x), (2, .int y)]) ?_
  refine hp_s (pc' := 1) (st' := [.ref 0]) rfl rfl rfl ?_
  refine hp_getr (k := 13) (w := .ref 60) (pc' := 4) rfl rfl rfl rfl rfl ?_
  refine hp_s (pc' := 5) (st' := [.int x, .ref 60]) rfl rfl rfl ?_
  refine hp_cv (r := 60) (o := 6) (kd := 1) (as := [.int x]) (rest := []) (pc' := 8) rfl rfl rfl rfl rfl rfl rfl rfl rfl (fun d1 => ?_)
  refine s_isShelf (xi := x.toInt) rfl ?_ ?_
  ·
    intro h1 h2
    refine hp_id (st := [.int 1]) ?_
    refine hp_go (pc' := 11) rfl rfl rfl ?_
    refine hp_s (pc' := 12) (st' := [.int y]) rfl rfl rfl ?_
    refine hp_s (pc' := 13) (st' := [.int (-1), .int y]) rfl rfl rfl ?_
    refine hp_ic (pc' := 16) (t := 29) (a := y.toInt) (b := (-1)) rfl rfl rfl rfl (by decide) (fun (h3 : y.toInt = (-1)) => ?_) (fun (h4 : ¬ (y.toInt = (-1))) => ?_)
    ·
      refine hp_s (pc' := 30) (st' := [.ref 0]) rfl rfl rfl ?_
      refine hp_getr (k := 13) (w := .ref 60) (pc' := 33) rfl rfl rfl rfl rfl ?_
      refine hp_s (pc' := 34) (st' := [.int x, .ref 60]) rfl rfl rfl ?_
      refine hp_s (pc' := 35) (st' := [.int y, .int x, .ref 60]) rfl rfl rfl ?_
      refine hp_cv (r := 60) (o := 6) (kd := 1) (as := [.int x, .int y]) (rest := []) (pc' := 38) rfl rfl rfl rfl rfl rfl rfl rfl rfl (fun d2 => ?_)
      refine s_holdTwin (xi := x.toInt) rfl (yi := y.toInt) rfl ?_ ?_
      ·
        intro p1 ep1 h5 h6 h7
        refine hp_id (st := [.int 1]) ?_
        refine hp_ri rfl rfl ?_
        first | (exact k1 _ (by subst_vars; rfl) (by first | assumption | omega) (by first | assumption | omega) (by first | assumption | omega)) | (exact k2 _ (by subst_vars; rfl) (by first | assumption | omega) (by first | assumption | omega) (by first | assumption | omega) (by first | assumption | omega))
      ·
        intro p2 ep2 h8 h9 h10
        refine hp_id (st := [.int 1]) ?_
        refine hp_ri rfl rfl ?_
        first | (exact k1 _ (by subst_vars; rfl) (by first | assumption | omega) (by first | assumption | omega) (by first | assumption | omega)) | (exact k2 _ (by subst_vars; rfl) (by first | assumption | omega) (by first | assumption | omega) (by first | assumption | omega) (by first | assumption | omega))
    ·
      refine hp_s (pc' := 17) (st' := [.ref 0]) rfl rfl rfl ?_
      refine hp_getr (k := 12) (w := .ref 57) (pc' := 20) rfl rfl rfl rfl rfl ?_
      refine hp_s (pc' := 21) (st' := [.int y, .ref 57]) rfl rfl rfl ?_
      refine hp_cv (r := 57) (o := 9) (kd := 1) (as := [.int y]) (rest := []) (pc' := 24) rfl rfl rfl rfl rfl rfl rfl rfl rfl (fun d3 => ?_)
      refine s_hasT (xi := y.toInt) rfl ?_ ?_
      ·
        intro h11 h12
        refine hp_id (st := [.int 1]) ?_
        refine hp_go (pc' := 29) rfl rfl rfl ?_
        refine hp_s (pc' := 30) (st' := [.ref 0]) rfl rfl rfl ?_
        refine hp_getr (k := 13) (w := .ref 60) (pc' := 33) rfl rfl rfl rfl rfl ?_
        refine hp_s (pc' := 34) (st' := [.int x, .ref 60]) rfl rfl rfl ?_
        refine hp_s (pc' := 35) (st' := [.int y, .int x, .ref 60]) rfl rfl rfl ?_
        refine hp_cv (r := 60) (o := 6) (kd := 1) (as := [.int x, .int y]) (rest := []) (pc' := 38) rfl rfl rfl rfl rfl rfl rfl rfl rfl (fun d4 => ?_)
        refine s_holdTwin (xi := x.toInt) rfl (yi := y.toInt) rfl ?_ ?_
        ·
          intro p3 ep3 h13 h14 h15
          refine hp_id (st := [.int 1]) ?_
          refine hp_ri rfl rfl ?_
          first | (exact k1 _ (by subst_vars; rfl) (by first | assumption | omega) (by first | assumption | omega) (by first | assumption | omega)) | (exact k2 _ (by subst_vars; rfl) (by first | assumption | omega) (by first | assumption | omega) (by first | assumption | omega) (by first | assumption | omega))
        ·
          intro p4 ep4 h16 h17 h18
          refine hp_id (st := [.int 1]) ?_
          refine hp_ri rfl rfl ?_
          first | (exact k1 _ (by subst_vars; rfl) (by first | assumption | omega) (by first | assumption | omega) (by first | assumption | omega)) | (exact k2 _ (by subst_vars; rfl) (by first | assumption | omega) (by first | assumption | omega) (by first | assumption | omega) (by first | assumption | omega))
      ·
        intro h19
        refine hp_id (st := [.int 0]) ?_
        refine hp_go (pc' := 27) rfl rfl rfl ?_
        refine hp_s (pc' := 28) (st' := [.int (-1)]) rfl rfl rfl ?_
        refine hp_ri rfl rfl ?_
        exact k0 (by first | assumption | omega)
  ·
    intro h20
    refine hp_id (st := [.int 0]) ?_
    refine hp_go (pc' := 27) rfl rfl rfl ?_
    refine hp_s (pc' := 28) (st' := [.int (-1)]) rfl rfl rfl ?_
    refine hp_ri rfl rfl ?_
    exact k0 (by first | assumption | omega)
theorem M_keep {ro : List (List Int32)} {n d : Nat} {p : xH} {Q : Option Value → xH → Prop} {x : Int32} {xi : Int} {y : Int32} {yi : Int} (hx : x.toInt = xi) (hy : y.toInt = yi) (pre0 : 0 ≤ (rI p 66 44).toInt) (k0 : (¬ (0 ≤ xi ∧ xi < 6 ∧ (yi = -1 ∨ 0 ≤ yi ∧ yi < (rI p 66 44).toInt))) → Q (some (.int (-1))) p) (k1 : ∀ p2 : xH, p2 = (wV (wV p 97 xi.toNat (.int y)) 98 xi.toNat (.int 0)) → (0 ≤ xi) → (xi < 6) → (yi = -1 ∨ 0 ≤ yi ∧ yi < (rI p 66 44).toInt) → Q (some (.int (1))) p2) : hP ro n d (12, 3, 1, 1, k264) 0 (lv_args 0 [.ref 66, .int x, .int y]) [] p Q := by
  subst hx
  subst hy
  refine hp_id (ls := [(0, .ref 66), (1, .int x), (2, .int y)]) ?_
  refine hp_s (pc' := 1) (st' := [.int x]) rfl rfl rfl ?_
  refine hp_cs (kd := 0) (as := [.int x]) (rest := []) (pc' := 4) rfl rfl rfl rfl rfl rfl rfl (fun d1 => ?_)
  refine s_isShelfM (xi := x.toInt) rfl ?_ ?_
  ·
    intro h1 h2
    refine hp_id (st := [.int 1]) ?_
    refine hp_go (pc' := 7) rfl rfl rfl ?_
    refine hp_s (pc' := 8) (st' := [.int y]) rfl rfl rfl ?_
    refine hp_s (pc' := 9) (st' := [.int (-1), .int y]) rfl rfl rfl ?_
    refine hp_ic (pc' := 12) (t := 22) (a := y.toInt) (b := (-1)) rfl rfl rfl rfl (by decide) (fun (h3 : y.toInt = (-1)) => ?_) (fun (h4 : ¬ (y.toInt = (-1))) => ?_)
    ·
      refine hp_s (pc' := 23) (st' := [.ref 66]) rfl rfl rfl ?_
      refine hp_getr (k := 50) (w := .ref 97) (pc' := 26) rfl rfl rfl rfl rfl ?_
      refine hp_s (pc' := 27) (st' := [.int x, .ref 97]) rfl rfl rfl ?_
      refine hp_s (pc' := 28) (st' := [.int y, .int x, .ref 97]) rfl rfl rfl ?_
      refine hp_st (t := 100) rfl (.inl rfl) rfl rfl ?_
      intro p1 wp1 (p1a : 0 ≤ x.toInt) (p1b : x.toInt < 6) ep1
      refine hp_s (pc' := 30) (st' := [.ref 66]) rfl rfl rfl ?_
      refine hp_getr (k := 51) (w := .ref 98) (pc' := 33) rfl rfl rfl rfl rfl ?_
      refine hp_s (pc' := 34) (st' := [.int x, .ref 98]) rfl rfl rfl ?_
      refine hp_s (pc' := 35) (st' := [.int 0, .int x, .ref 98]) rfl rfl rfl ?_
      refine hp_st (t := 100) rfl (.inl rfl) rfl rfl ?_
      intro p2 wp2 (p2a : 0 ≤ x.toInt) (p2b : x.toInt < 6) ep2
      refine hp_s (pc' := 37) (st' := [.int 1]) rfl rfl rfl ?_
      refine hp_ri rfl rfl ?_
      exact k1 _ (by subst_vars; rfl) (by first | assumption | omega) (by first | assumption | omega) (by first | assumption | omega)
    ·
      refine hp_s (pc' := 13) (st' := [.ref 66]) rfl rfl rfl ?_
      refine hp_s (pc' := 14) (st' := [.int y, .ref 66]) rfl rfl rfl ?_
      refine hp_cv (r := 66) (o := 12) (kd := 1) (as := [.int y]) (rest := []) (pc' := 17) rfl rfl rfl rfl rfl rfl rfl rfl rfl (fun d2 => ?_)
      refine s_isBody (xi := y.toInt) rfl (by first | assumption | omega) ?_ ?_
      ·
        intro h5 h6
        refine hp_id (st := [.int 1]) ?_
        refine hp_go (pc' := 22) rfl rfl rfl ?_
        refine hp_s (pc' := 23) (st' := [.ref 66]) rfl rfl rfl ?_
        refine hp_getr (k := 50) (w := .ref 97) (pc' := 26) rfl rfl rfl rfl rfl ?_
        refine hp_s (pc' := 27) (st' := [.int x, .ref 97]) rfl rfl rfl ?_
        refine hp_s (pc' := 28) (st' := [.int y, .int x, .ref 97]) rfl rfl rfl ?_
        refine hp_st (t := 100) rfl (.inl rfl) rfl rfl ?_
        intro p3 wp3 (p3a : 0 ≤ x.toInt) (p3b : x.toInt < 6) ep3
        refine hp_s (pc' := 30) (st' := [.ref 66]) rfl rfl rfl ?_
        refine hp_getr (k := 51) (w := .ref 98) (pc' := 33) rfl rfl rfl rfl rfl ?_
        refine hp_s (pc' := 34) (st' := [.int x, .ref 98]) rfl rfl rfl ?_
        refine hp_s (pc' := 35) (st' := [.int 0, .int x, .ref 98]) rfl rfl rfl ?_
        refine hp_st (t := 100) rfl (.inl rfl) rfl rfl ?_
        intro p4 wp4 (p4a : 0 ≤ x.toInt) (p4b : x.toInt < 6) ep4
        refine hp_s (pc' := 37) (st' := [.int 1]) rfl rfl rfl ?_
        refine hp_ri rfl rfl ?_
        exact k1 _ (by subst_vars; rfl) (by first | assumption | omega) (by first | assumption | omega) (by first | assumption | omega)
      ·
        intro h7
        refine hp_id (st := [.int 0]) ?_
        refine hp_go (pc' := 20) rfl rfl rfl ?_
        refine hp_s (pc' := 21) (st' := [.int (-1)]) rfl rfl rfl ?_
        refine hp_ri rfl rfl ?_
        exact k0 (by first | assumption | omega)
  ·
    intro h8
    refine hp_id (st := [.int 0]) ?_
    refine hp_go (pc' := 20) rfl rfl rfl ?_
    refine hp_s (pc' := 21) (st' := [.int (-1)]) rfl rfl rfl ?_
    refine hp_ri rfl rfl ?_
    exact k0 (by first | assumption | omega)
end
section
/-! the relation of the twins: how many, of which kinds -/
abbrev F_tw : List (Nat × Nat) := [(57, 1), (66, 44), (58, 9999), (95, 9999)]
def C_tw (p : xH) : Prop := rI p 57 1 = rI p 66 44 ∧ ∀ k, rV p 58 k = rV p 95 k
theorem C_tw_fr {p p1 : xH} (h : hSm F_tw p p1) (c : C_tw p) : C_tw p1 :=
  ⟨by rw [h.int (r := 57) (k := 1) rfl, h.int (r := 66) (k := 44) rfl]; exact c.1, fun k => by rw [h 58 k rfl, h 95 k rfl]; exact c.2 k⟩
theorem C_tw_0 : C_tw xhA := by
  refine ⟨by decide +kernel, fun k => ?_⟩
  unfold rV
  rw [show xhA[58]? = xhA[95]? from by decide +kernel]
theorem gh_bodies {p : xH} (h : GH jGG p) : 0 ≤ (rI p 66 44).toInt ∧ (rI p 66 44).toInt ≤ 50 := gh_fld h (r := 66) (k := 44) rfl rfl
theorem t_body {ro : List (List Int32)} {p : xH} (hG : GH jGG p) (hR : C_tw p) (a0 : Int32) {n m d d' : Nat} :
    hP ro n d (11, 2, 1, 1, k162) 0 (lv_args 0 [.ref 0, .int a0]) [] p (fun v1 p1 => hP ro m d' (12, 2, 1, 1, k254) 0 (lv_args 0 [.ref 66, .int a0]) [] p1 (fun v2 p2 => v1 = v2 ∧ C_tw p2)) := by
  obtain ⟨hc, hr⟩ := hR
  have hw := hW_of hG
  have hb := gh_bodies hG
  refine X_body (xi := a0.toInt) rfl ?_ ?_ ?_
  · intro h1
    refine M_body (xi := a0.toInt) rfl ?_ ?_ ?_
    · intro h2; exact ⟨rfl, hc, hr⟩
    · intro h2 h3 h4; exfalso; omega
    · intro z p2 e h2 h3 h4 h5 h6; exfalso; omega
  · intro h1 h1b h1c
    rw [hc] at h1c
    refine M_body (xi := a0.toInt) rfl ?_ ?_ ?_
    · intro h2; exfalso; omega
    · intro h2 h3 h4; exact ⟨rfl, hc, hr⟩
    · intro z p2 e h2 h3 h4 h5 h6; exfalso; omega
  · intro z p1 e1 g1 g2 g3 g4 g5
    have f1 : rI p1 66 44 = rI p 66 44 := by rw [e1, rI_o (by decide), rI_o (by decide)]
    refine M_body (xi := a0.toInt) rfl ?_ ?_ ?_
    · intro h2; exfalso; omega
    · intro h2 h3 h4; rw [f1, ← hc] at h4; exfalso; omega
    · intro z2 p2 e2 h2 h3 h4 h5 h6
      rw [f1, ← hc] at e2 h4 h5 h6
      have w1 : hW (wV p 58 (rI p 57 1).toInt.toNat (.int a0)) := hW_wV hw rfl
      have w2 : hW p1 := by rw [e1]; exact hW_wV w1 rfl
      have w3 : hW (wV p1 95 (rI p 57 1).toInt.toNat (.int a0)) := hW_wV w2 rfl
      refine ⟨by rw [Int32.toInt_inj.mp (g5.trans h6.symm)], ?_, fun k => ?_⟩
      · rw [e2, rI_o (by decide), rI_o (by decide), rI_eq w3 (by decide), e1, rI_eq w1 (by decide)]
      · have i1 : (rI p 57 1).toInt.toNat < 50 := by omega
        rw [e2, rV_ne (fun e => absurd e (by decide)), rV_ne (r' := 95) (r := 66) (fun e => absurd e (by decide))]
        by_cases hk : k = (rI p 57 1).toInt.toNat
        · subst hk
          rw [rV_ne (fun e => absurd e (by decide)), rV_eq w2 i1, e1, rV_ne (fun e => absurd e (by decide)), rV_eq hw i1]
        · rw [rV_ne (fun _ => by first | exact hk | decide), rV_ne (r' := 95) (r := 95) (fun _ => hk), e1, rV_ne (fun e => absurd e (by decide)), rV_ne (r' := 58) (r := 58) (fun _ => hk), rV_ne (fun e => absurd e (by decide)), rV_ne (fun e => absurd e (by decide))]
          exact hr k
/-- what keep answers, of both -/
theorem t_keep {ro : List (List Int32)} {p : xH} (hG : GH jGG p) (hR : C_tw p) (a0 a1 : Int32) {n m d d' : Nat} :
    hP ro n d (11, 3, 1, 1, k165) 0 (lv_args 0 [.ref 0, .int a0, .int a1]) [] p (fun v1 p1 => hP ro m d' (12, 3, 1, 1, k264) 0 (lv_args 0 [.ref 66, .int a0, .int a1]) [] p1 (fun v2 p2 => v1 = v2)) := by
  obtain ⟨hc, hr⟩ := hR
  have hw := hW_of hG
  have hb := gh_bodies hG
  refine X_keep (xi := a0.toInt) (yi := a1.toInt) rfl rfl ?_ ?_ ?_
  · intro h1
    rw [hc] at h1
    refine M_keep (xi := a0.toInt) (yi := a1.toInt) rfl rfl hb.1 ?_ ?_
    · intro h2; rfl
    · intro p2 e h2 h3 h4; exfalso; omega
  · intro p1 e1 h1 h2 h3
    have f1 : rI p1 66 44 = rI p 66 44 := by rw [e1, rI_o (by decide), rI_o (by decide)]
    refine M_keep (xi := a0.toInt) (yi := a1.toInt) rfl rfl (by rw [f1]; exact hb.1) ?_ ?_
    · intro h4; rw [f1] at h4; exfalso; omega
    · intro p2 e h4 h5 h6; rfl
  · intro p1 e1 h1 h2 h3 h3b
    rw [hc] at h3b
    have f1 : rI p1 66 44 = rI p 66 44 := by rw [e1, rI_o (by decide), rI_o (by decide)]
    refine M_keep (xi := a0.toInt) (yi := a1.toInt) rfl rfl (by rw [f1]; exact hb.1) ?_ ?_
    · intro h4; rw [f1] at h4; exfalso; omega
    · intro p2 e h4 h5 h6; rfl
end
