/-! turn, hat -/
theorem gh_mo {p : xH} (h : GH jGG p) : 0 ≤ (rI p 13 9).toInt ∧ (rI p 13 9).toInt ≤ 63 := gh_fld h (r := 13) (k := 9) rfl rfl
abbrev T_turn : List (Nat × Nat) := [(14, 9999), (67, 9999), (13, 9)]
theorem t_turn {ro : List (List Int32)} {p : xH} (hG : GH jGG p) (hZ : C_sz p) (hcr : C_cr p) {n m d d' : Nat} :
    hP ro n d (11, 1, 1, 1, k157) 0 (lv_args 0 [.ref 0]) [] p (fun v1 p1 => hP ro m d' (12, 2, 1, 1, k248) 0 (lv_args 0 [.ref 66]) [] p1 (fun v2 p2 => v1 = v2 ∧ hNt T_turn p p2 ∧ C_cr p2)) := by
  have hb := gh_sz hG
  have hm := gh_mo hG
  have hZ0 : rI p 13 7 = rI p 66 6 := hZ
  obtain ⟨c1, c2, c3, c4, c5, c6⟩ := hcr
  refine X_turn hb.1 hb.2 hm.1 (by omega) ?_
  intro pA z p1 oA hz e1 wpA
  have nA : hNt T_turn p pA := (hNt.refl _ p).on oA (fun _ => rfl)
  have n1 : hNt T_turn p p1 := by rw [e1]; exact nA.w rfl
  have o1 : ∀ r j, r ≠ 13 → r ≠ 14 → rV p1 r j = rV p r j := fun r j x1 x2 => by rw [e1, rV_ne (fun z => absurd z x1), oA.1 r j x2]
  have i1 : ∀ r j, r ≠ 13 → r ≠ 14 → rI p1 r j = rI p r j := fun r j x1 x2 => rI_same (o1 r j x1 x2)
  have f66 : rI p1 66 6 = rI p 13 7 := by rw [i1 66 6 (by decide) (by decide), hZ0]
  have f22 : rI p1 67 22 = rI p 13 9 := by rw [i1 67 22 (by decide) (by decide), c5]
  refine hp_hw (fun w1 => ?_)
  refine M_turn (by rw [f66]; exact hb.1) (by rw [f66]; exact hb.2) (by rw [f22]; exact hm.1) (by rw [f22]; omega) ?_
  intro pB z2 p2 oB hz2 e2 wpB
  rw [f22] at hz2
  have ez : z2 = z := Int32.toInt_inj.mp (hz2.trans hz.symm)
  subst ez
  have oB2 : ∀ j, rV pB 67 j = if 0 ≤ j ∧ j < (rI p 13 7).toInt.toNat then .int (rI p 67 j ^^^ rI p 67 (14 + j)) else rV p 67 j := fun j => by
    rw [oB.2 j]
    dsimp only
    rw [f66, i1 67 j (by decide) (by decide), i1 67 (14 + j) (by decide) (by decide), o1 67 j (by decide) (by decide)]
  have wB : ∀ j, rV p2 67 j = if j = 22 then .int z2 else rV pB 67 j := fun j => by rw [e2, rV_w wpB (by decide)]
  have n2 : hNt T_turn p p2 := by rw [e2]; exact (n1.on oB (fun _ => rfl)).w rfl
  have r14 : ∀ j, rV p2 14 j = if 0 ≤ j ∧ j < (rI p 13 7).toInt.toNat then .int (rI p 14 j ^^^ rI p 16 j) else rV p 14 j := fun j => by
    rw [e2, rV_ne (fun z => absurd z (by decide)), oB.1 14 j (by decide), e1, rV_ne (fun z => absurd z (by decide)), oA.2 j]
  have wC : ∀ j, j < 22 → rV p2 67 j = if 0 ≤ j ∧ j < (rI p 13 7).toInt.toNat then .int (rI p 67 j ^^^ rI p 67 (14 + j)) else rV p 67 j := fun j hj => by rw [wB, if_neg (by omega), oB2]
  have wD : ∀ j, 7 ≤ j → j < 22 → rV p2 67 j = rV p 67 j := fun j h1 h2 => by rw [wC j h2, if_neg (by omega)]
  refine ⟨rfl, n2, fun j hj => ?_, fun j hj => ?_, fun j hj => ?_, ?_, ?_, fun j hj hj2 => ?_⟩
  · rw [r14, wC j (by omega)]
    by_cases g : 0 ≤ j ∧ j < (rI p 13 7).toInt.toNat
    · rw [if_pos g, if_pos g, rI_same (c1 j hj), rI_same (c3 j hj)]
    · rw [if_neg g, if_neg g, c1 j hj]
  · rw [n2 15 j rfl, wD _ (by omega) (by omega), c2 j hj]
  · rw [n2 16 j rfl, wD _ (by omega) (by omega), c3 j hj]
  · rw [n2.int (r := 13) (k := 8) rfl, c4]
    exact (rI_same (wD 21 (by decide) (by decide))).symm
  · have wA : rI p2 13 9 = z2 := by rw [e2, rI_o (by decide), oB.int (by decide), e1, rI_eq wpA (by decide)]
    rw [wA]
    unfold rI
    rw [wB, if_pos rfl]
  · rw [n2 16 j rfl]
    rw [n2.int (r := 13) (k := 7) rfl] at hj
    exact c6 j hj hj2
abbrev T_hat : List (Nat × Nat) := [(2, 9999), (71, 9999)]
theorem t_hat {ro : List (List Int32)} {p : xH} (hG : GH jGG p) (hZ : C_sz p) (hcr : C_cr p) (hh : C_ht p) (a0 a1 : Int32) {n m d d' : Nat} :
    hP ro n d (11, 4, 1, 1, k130) 0 (lv_args 0 [.ref 0, .int a0, .int a1]) [] p (fun v1 p1 => hP ro m d' (12, 4, 1, 1, k189) 0 (lv_args 0 [.ref 66, .int a0, .int a1]) [] p1 (fun v2 p2 => v1 = v2 ∧ hNt T_hat p p2 ∧ C_ht p2)) := by
  have hw := hW_of hG
  have hb := gh_sz hG
  have hZ0 : rI p 13 7 = rI p 66 6 := hZ
  obtain ⟨c1, c2, c3, c4, c5, c6⟩ := hcr
  obtain ⟨k1, k2⟩ := hh
  have e15 : 0 ≤ a0.toInt → a0.toInt < (rI p 13 7).toInt → rI p 15 a0.toInt.toNat = rI p 67 (7 + a0.toInt).toNat := fun x1 x2 => by
    rw [show (7 + a0.toInt).toNat = 7 + a0.toInt.toNat by omega]; exact rI_same (c2 _ (by omega))
  refine X_hat (xi := a0.toInt) (yi := a1.toInt) rfl rfl ?_ ?_
  · intro h1
    refine M_hat (xi := a0.toInt) (yi := a1.toInt) rfl rfl (by rw [← hZ0]; exact hb.1) (by rw [← hZ0]; exact hb.2) ?_ ?_
    · intro h2; exact ⟨rfl, hNt.refl _ _, k1, k2⟩
    · intro p2 e h2 h3 h4
      rw [← hZ0] at h3
      exact absurd ⟨h2, h3, by rw [e15 h2 h3]; exact h4⟩ h1
  · intro p1 e1 h1 h2 h3
    have f66 : rI p1 66 6 = rI p 13 7 := by rw [e1, rI_o (by decide), hZ0]
    have f67 : ∀ j, rI p1 67 j = rI p 67 j := fun j => by rw [e1, rI_o (by decide)]
    have f71 : ∀ j, rI p1 71 j = rI p 2 j := fun j => by rw [e1, rI_o (by decide)]; exact (rI_same (k1 j)).symm
    refine M_hat (xi := a0.toInt) (yi := a1.toInt) rfl rfl (by rw [f66]; exact hb.1) (by rw [f66]; exact hb.2) ?_ ?_
    · intro h4
      exact absurd ⟨h1, by rw [f66]; exact h2, by rw [f67, ← e15 h1 h2]; exact h3⟩ h4
    · intro p2 e2 h4 h5 h6
      refine ⟨by rw [f71], by rw [e2, e1]; exact ((hNt.refl _ _).w rfl).w rfl, ?_, fun j hj hj2 => ?_⟩
      · rw [e2, e1]
        exact rV_set hw rfl (by decide) (show _ < 7 by omega) (show _ < 7 by omega) k1
      · have s7 : rI p2 13 7 = rI p 13 7 := by rw [e2, rI_o (by decide), e1, rI_o (by decide)]
        rw [s7] at hj
        rw [e2, rV_ne (fun z => absurd z (by decide)), e1, rV_ne (fun _ => by omega)]
        exact k2 j hj hj2
