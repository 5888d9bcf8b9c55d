/-! sight -/
theorem gh_34 {p : xH} (h : GH jGG p) : 0 ≤ (rI p 66 34).toInt ∧ (rI p 66 34).toInt ≤ 10 := gh_fld h (r := 66) (k := 34) rfl rfl
abbrev T_sight : List (Nat × Nat) := [(1, 5), (4, 9999), (5, 9999), (6, 9999), (66, 34), (89, 9999)]
theorem t_sight {ro : List (List Int32)} {p : xH} (hG : GH jGG p) (hS : C_si p) (a0 a1 : Int32) {n m d d' : Nat} :
    hP ro n d (11, 3, 1, 1, k152) 0 (lv_args 0 [.ref 0, .int a0, .int a1]) [] p (fun v1 p1 => hP ro m d' (12, 3, 1, 1, k239) 0 (lv_args 0 [.ref 66, .int a0, .int a1]) [] p1 (fun v2 p2 => v1 = v2 ∧ hNt T_sight p p2 ∧ C_si p2)) := by
  have hw := hW_of hG
  have b34 := gh_34 hG
  obtain ⟨s1, s2⟩ := hS
  refine X_sight (mi := a0.toInt) (li := a1.toInt) rfl rfl ?_ ?_ ?_
  · intro h1
    refine M_sight (mi := a0.toInt) (li := a1.toInt) rfl rfl b34.1 b34.2 ?_ ?_ ?_
    · intros; exact ⟨rfl, hNt.refl _ _, s1, s2⟩
    · intros; exfalso; omega
    · intros; exfalso; omega
  · intro h1 h2 h3 h4 h5 h6
    rw [s1] at h6
    refine M_sight (mi := a0.toInt) (li := a1.toInt) rfl rfl b34.1 b34.2 ?_ ?_ ?_
    · intros; exfalso; omega
    · intros; exact ⟨rfl, hNt.refl _ _, s1, s2⟩
    · intros; exfalso; omega
  · intro z p1 e1 h1 h2 h3 h4 h5 h6 h7 hz
    rw [s1] at e1 h6 h7 hz
    have f34 : rI p1 66 34 = rI p 66 34 := by rw [e1, rI_o (by decide), rI_o (by decide), rI_o (by decide), rI_o (by decide)]
    refine M_sight (mi := a0.toInt) (li := a1.toInt) rfl rfl (by rw [f34]; exact b34.1) (by rw [f34]; exact b34.2) ?_ ?_ ?_
    · intros; exfalso; omega
    · rw [f34]; intros; exfalso; omega
    · rw [f34]
      intro z2 p2 e2 g1 g2 g3 g4 g5 g6 g7 hz2
      obtain ⟨S, eS⟩ : ∃ S : Nat, (rI p 66 34).toInt.toNat = S := ⟨_, rfl⟩
      rw [eS] at e1
      rw [show (3 * (rI p 66 34).toInt).toNat = 3 * S by omega, show (3 * (rI p 66 34).toInt + 1).toNat = 3 * S + 1 by omega, show (3 * (rI p 66 34).toInt + 2).toNat = 3 * S + 2 by omega] at e2
      have S10 : S < 10 := by omega
      have w1 : hW (wV p 4 S (.int (a0 / 10))) := hW_wV hw rfl
      have w2 : hW (wV (wV p 4 S (.int (a0 / 10))) 5 S (.int (a0 - a0 / 10 * 10))) := hW_wV w1 rfl
      have w3 : hW (wV (wV (wV p 4 S (.int (a0 / 10))) 5 S (.int (a0 - a0 / 10 * 10))) 6 S (.int a1)) := hW_wV w2 rfl
      have wp1 : hW p1 := by rw [e1]; exact hW_wV w3 rfl
      have v1 : hW (wV p1 89 (3 * S) (.int (a0 / 10))) := hW_wV wp1 rfl
      have v2 : hW (wV (wV p1 89 (3 * S) (.int (a0 / 10))) 89 (3 * S + 1) (.int (a0 - a0 / 10 * 10))) := hW_wV v1 rfl
      have v3 : hW (wV (wV (wV p1 89 (3 * S) (.int (a0 / 10))) 89 (3 * S + 1) (.int (a0 - a0 / 10 * 10))) 89 (3 * S + 2) (.int a1)) := hW_wV v2 rfl
      have r89 : ∀ j, rV p2 89 j = if j = 3 * S + 2 then .int a1 else if j = 3 * S + 1 then .int (a0 - a0 / 10 * 10) else if j = 3 * S then .int (a0 / 10) else rV p 89 j := fun j => by
        rw [e2, rV_ne (fun z => absurd z (by decide)), rV_w v2 (show _ < 30 by omega), rV_w v1 (show _ < 30 by omega), rV_w wp1 (show _ < 30 by omega), e1, rV_ne (fun z => absurd z (by decide)), rV_ne (fun z => absurd z (by decide)), rV_ne (fun z => absurd z (by decide)), rV_ne (fun z => absurd z (by decide))]
      have dn : ∀ r j, r ≠ 66 → r ≠ 89 → rV p2 r j = rV p1 r j := fun r j x1 x2 => by rw [e2, rV_ne (fun z => absurd z x1), rV_ne (fun z => absurd z x2), rV_ne (fun z => absurd z x2), rV_ne (fun z => absurd z x2)]
      have r4 : ∀ j, rV p2 4 j = if j = S then .int (a0 / 10) else rV p 4 j := fun j => by
        rw [dn 4 j (by decide) (by decide), e1, rV_ne (fun z => absurd z (by decide)), rV_ne (fun z => absurd z (by decide)), rV_ne (fun z => absurd z (by decide)), rV_w hw (show _ < 10 by omega)]
      have r5 : ∀ j, rV p2 5 j = if j = S then .int (a0 - a0 / 10 * 10) else rV p 5 j := fun j => by
        rw [dn 5 j (by decide) (by decide), e1, rV_ne (fun z => absurd z (by decide)), rV_ne (fun z => absurd z (by decide)), rV_w w1 (show _ < 10 by omega), rV_ne (fun z => absurd z (by decide))]
      have r6 : ∀ j, rV p2 6 j = if j = S then .int a1 else rV p 6 j := fun j => by
        rw [dn 6 j (by decide) (by decide), e1, rV_ne (fun z => absurd z (by decide)), rV_w w2 (show _ < 10 by omega), rV_ne (fun z => absurd z (by decide)), rV_ne (fun z => absurd z (by decide))]
      refine ⟨by rw [Int32.toInt_inj.mp (hz.trans hz2.symm)], by rw [e2, e1]; exact ((((((((hNt.refl _ _).w rfl).w rfl).w rfl).w rfl).w rfl).w rfl).w rfl).w rfl, ?_, fun k hk => ?_⟩
      · rw [show rI p2 1 5 = rI p1 1 5 from rI_same (dn 1 5 (by decide) (by decide)), e1, rI_eq w3 (by decide), e2, rI_eq v3 (by decide)]
      · obtain ⟨t1, t2, t3⟩ := s2 k hk
        rw [r4, r5, r6, r89, r89, r89]
        by_cases e : k = S
        · rw [if_pos e, if_pos e, if_pos e, if_neg (by omega), if_neg (by omega), if_pos (by omega), if_neg (by omega), if_pos (by omega), if_pos (by omega)]
          exact ⟨rfl, rfl, rfl⟩
        · rw [if_neg e, if_neg e, if_neg e, if_neg (by omega), if_neg (by omega), if_neg (by omega), if_neg (by omega), if_neg (by omega), if_neg (by omega), if_neg (by omega), if_neg (by omega), if_neg (by omega)]
          exact ⟨t1, t2, t3⟩
