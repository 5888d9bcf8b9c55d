/-! alike, needs, months, of both -/
theorem gh_14 {p : xH} (h : GH jGG p) (k : Nat) : 0 ≤ (rI p 14 k).toInt ∧ (rI p 14 k).toInt ≤ 63 := gh_any h (r := 14) rfl (by decide) (by decide) k
theorem gh_67 {p : xH} (h : GH jGG p) (k : Nat) : 0 ≤ (rI p 67 k).toInt ∧ (rI p 67 k).toInt ≤ 63 := gh_any h (r := 67) rfl (by decide) (by decide) k
theorem gh_71 {p : xH} (h : GH jGG p) (k : Nat) : -1 ≤ (rI p 71 k).toInt ∧ (rI p 71 k).toInt ≤ 5 := gh_any h (r := 71) rfl (by decide) (by decide) k
theorem hSn_xor (l d h : Int32) : hSn (l ^^^ d) h = hSn l h ^^^ d := by
  unfold hSn
  by_cases g : h.toInt < 0
  · rw [if_pos g, if_pos g]
  · rw [if_neg g, if_neg g, Int32.xor_assoc, Int32.xor_assoc, Int32.xor_comm d]
theorem seen_same {p : xH} (hcr : C_cr p) (hh : C_ht p) {x : Nat} (hx : x < 7) (k : Int) (k0 : 0 ≤ k) : aA p x k = aM p x k := by
  obtain ⟨c1, c2, c3, -⟩ := hcr
  unfold aA lkA aM mS
  have e1 := rI_same (c1 x hx)
  have e2 := rI_same (hh.1 x)
  have e3 := rI_same (c3 x hx)
  by_cases g : k % 2 = 0
  · rw [if_pos g, if_neg (by omega), e1, e2]
    exact Int32.xor_zero.symm
  · rw [if_neg g, if_pos (by omega), e1, e2, e3, hSn_xor]
theorem aM_0 (p : xH) (x : Nat) : aM p x 0 = mS p x := by
  unfold aM
  rw [if_neg (by decide)]
  exact Int32.xor_zero
theorem mo_same {p : xH} (hG : GH jGG p) (hcr : C_cr p) (k : Int) : moA p k = Int32.ofInt (((rI p 67 22).toInt + k) % 12) := by
  unfold moA
  rw [hcr.2.2.2.2.1]
theorem mo_0 {p : xH} (hG : GH jGG p) (hcr : C_cr p) (hmo : C_mo p) : moA p 0 = rI p 67 22 := by
  have h1 := gh_mo hG
  have h2 := hmo.1
  unfold moA
  rw [← hcr.2.2.2.2.1]
  apply Int32.toInt_inj.mp
  rw [Int32.toInt_ofInt_of_le (by omega) (by omega)]
  omega
theorem mo_same2 {p : xH} {lo : Option (List yN)} (hG : GH jGG p) (hcr : C_cr p) (hh : C_ht p) {k : Int} (k0 : 0 ≤ k) {x y : Nat} (hx : x < 7) (hy : y < 7) : Xal p lo k x y ↔ Mmo p lo k x y := by
  unfold Xal Mmo
  rw [seen_same hcr hh hx k k0, seen_same hcr hh hy k k0, mo_same hG hcr, rI_same (hh.1 x), rI_same (hh.1 y), hcr.2.2.2.1]
theorem al_same {p : xH} {lo : Option (List yN)} (hG : GH jGG p) (hcr : C_cr p) (hh : C_ht p) (hmo : C_mo p) {x y : Nat} (hx : x < 7) (hy : y < 7) : Xal p lo 0 x y ↔ Mal p lo x y := by
  unfold Xal Mal
  rw [seen_same hcr hh hx 0 (by decide), seen_same hcr hh hy 0 (by decide), aM_0, aM_0, mo_0 hG hcr hmo, rI_same (hh.1 x), rI_same (hh.1 y), hcr.2.2.2.1]
abbrev T_alk : List (Nat × Nat) := [(20, 4), (23, 9999), (24, 9999), (66, 15), (66, 16), (66, 17), (66, 18), (66, 19), (77, 9999), (33, 9999), (78, 9999)]
/-- what the reference may take for granted, behind a call of the other that touches none of it -/
theorem pre_M {T : List (Nat × Nat)} {p p1 : xH} {lo : Option (List yN)} (hG : GH jGG p) (hZ : C_sz p) (hl : lMo p lo) (n1 : hNt T p p1) (e : jWF T [(66, 14), (76, 9999), (67, 9999), (71, 9999), (66, 6)] = true) :
    lMo p1 lo ∧ (∀ j, 0 ≤ (rI p1 67 j).toInt ∧ (rI p1 67 j).toInt < 64) ∧ (∀ j, -1 ≤ (rI p1 71 j).toInt ∧ (rI p1 71 j).toInt < 6) ∧ 0 ≤ (rI p1 66 6).toInt ∧ (rI p1 66 6).toInt ≤ 7 ∧ rI p1 66 6 = rI p 13 7 ∧ Mal p1 lo = Mal p lo ∧ Mmo p1 lo = Mmo p lo := by
  have hb := gh_sz hG
  have sm := n1.sm e
  have hZ0 : rI p 13 7 = rI p 66 6 := hZ
  have f6 : rI p1 66 6 = rI p 13 7 := by rw [sm.int (r := 66) (k := 6) rfl, hZ0]
  have smF : hSm F_pm p p1 := fun r k h => sm r k (by
    obtain ⟨f, hf, hf2⟩ := List.any_eq_true.mp h
    exact List.any_eq_true.mpr ⟨f, by
      simp only [List.mem_cons, List.mem_nil_iff, or_false] at hf ⊢
      rcases hf with rfl | rfl
      · exact Or.inr (Or.inr (Or.inl rfl))
      · exact Or.inr (Or.inr (Or.inr (Or.inl rfl))), hf2⟩)
  refine ⟨?_, fun j => ?_, fun j => ?_, by rw [f6]; exact hb.1, by rw [f6]; exact hb.2, f6, Mal_sm smF, Mmo_sm smF⟩
  · cases lo with
    | none => show (rI p1 66 14).toInt = -1; rw [sm.int (r := 66) (k := 14) rfl]; exact hl
    | some ls =>
      obtain ⟨a1, a2, a3⟩ := hl
      have eg : gM p1 0 (rI p 66 14).toInt = gM p 0 (rI p 66 14).toInt := by
        funext j
        unfold gM
        have z : ¬ ((0 : Int) < 0) := by decide
        rw [if_neg z, if_neg z, sm.int (r := 76) rfl]
      show 0 ≤ (rI p1 66 14).toInt ∧ (rI p1 66 14).toInt ≤ 120 ∧ yT (gM p1 0 (rI p1 66 14).toInt) 0 [] (some ls, (rI p1 66 14).toInt.toNat)
      rw [sm.int (r := 66) (k := 14) rfl, eg]
      exact ⟨a1, a2, a3⟩
  · rw [sm.int (r := 67) rfl]; have := gh_67 hG j; omega
  · rw [sm.int (r := 71) rfl]; have := gh_71 hG j; omega
theorem t_alike {ro : List (List Int32)} {p : xH} (hG : GH jGG p) (hZ : C_sz p) (hcr : C_cr p) (hh : C_ht p) (hmo : C_mo p) (hl : C_lw p) (a0 : Int32) {n m d d' : Nat} :
    hP ro n d (11, 2, 1, 1, k138) 0 (lv_args 0 [.ref 0, .int a0]) [] p (fun v1 p1 => hP ro m d' (12, 2, 1, 1, k212) 0 (lv_args 0 [.ref 66, .int a0]) [] p1 (fun v2 p2 => v1 = v2 ∧ hNt T_alk p p2)) := by
  have hb := gh_sz hG
  have hm := gh_mo hG
  obtain ⟨lo, hx, hm2⟩ := hl
  refine X_alike lo (xi := a0.toInt) rfl hx (fun j => (gh_2 hG j).1) hb.1 hb.2 hm.1 hm.2 ?_ ?_ ?_
  · intro h1
    obtain ⟨q1, q2, q3, q4, q5, q6, q7, -⟩ := pre_M hG hZ hm2 (hNt.refl [] p) (by decide +kernel)
    refine M_alike lo (xi := a0.toInt) rfl q1 q2 q3 q4 q5 ?_ ?_ ?_
    · intros; exact ⟨rfl, hNt.refl _ _⟩
    · intro p2 _ g1 g2 g3 g4 _; rw [q6] at g2 g3; exact absurd ⟨g1, g2, g3, g4⟩ h1
    · intro p2 _ g1 g2 g3 g4 _; rw [q6] at g2 g3; exact absurd ⟨g1, g2, g3, g4⟩ h1
  · intro p1 n1 h1 h2 h3 h4 h5
    obtain ⟨q1, q2, q3, q4, q5, q6, q7, -⟩ := pre_M hG hZ hm2 n1 (by decide +kernel)
    refine M_alike lo (xi := a0.toInt) rfl q1 q2 q3 q4 q5 ?_ ?_ ?_
    · intro g; rw [q6] at g; exact absurd ⟨h1, h2, h3, h4⟩ g
    · intro p2 n2 _ _ _ _ _; exact ⟨rfl, (n1.up (by decide)).trans (n2.up (by decide))⟩
    · intro p2 n2 _ _ _ _ g; rw [q7] at g; exact absurd ((al_same hG hcr hh hmo (by omega) (by omega)).mp h5) g
  · intro p1 n1 h1 h2 h3 h4 h5
    obtain ⟨q1, q2, q3, q4, q5, q6, q7, -⟩ := pre_M hG hZ hm2 n1 (by decide +kernel)
    refine M_alike lo (xi := a0.toInt) rfl q1 q2 q3 q4 q5 ?_ ?_ ?_
    · intro g; rw [q6] at g; exact absurd ⟨h1, h2, h3, h4⟩ g
    · intro p2 n2 _ _ _ _ g; rw [q7] at g; exact absurd ((al_same hG hcr hh hmo (by omega) (by omega)).mpr g) h5
    · intro p2 n2 _ _ _ _ _; exact ⟨rfl, (n1.up (by decide)).trans (n2.up (by decide))⟩
theorem t_needs {ro : List (List Int32)} {p : xH} (hG : GH jGG p) (hZ : C_sz p) (hcr : C_cr p) (hh : C_ht p) (hmo : C_mo p) (hl : C_lw p) {n m d d' : Nat} :
    hP ro n d (11, 1, 1, 1, k146) 0 (lv_args 0 [.ref 0]) [] p (fun v1 p1 => hP ro m d' (12, 3, 1, 1, k232) 0 (lv_args 0 [.ref 66]) [] p1 (fun v2 p2 => v1 = v2 ∧ hNt T_alk p p2)) := by
  have hb := gh_sz hG
  have hm := gh_mo hG
  obtain ⟨lo, hx, hm2⟩ := hl
  refine X_needs lo hx (fun j => (gh_2 hG j).1) hb.1 hb.2 hm.1 hm.2 ?_
  intro z p1 n1 hz
  obtain ⟨q1, q2, q3, q4, q5, q6, q7, -⟩ := pre_M hG hZ hm2 n1 (by decide +kernel)
  refine M_needs lo q1 q2 q3 q4 q5 ?_
  intro z2 p2 n2 hz2
  rw [q7, q6] at hz2
  refine ⟨?_, (n1.up (by decide)).trans (n2.up (by decide))⟩
  rw [Int32.toInt_inj.mp (hz.trans (Eq.trans (cP_e (fun x y gx gy => al_same hG hcr hh hmo (by omega) (by omega))) hz2.symm))]
theorem t_months {ro : List (List Int32)} {p : xH} (hG : GH jGG p) (hZ : C_sz p) (hcr : C_cr p) (hh : C_ht p) (hl : C_lw p) (a0 : Int32) {n m d d' : Nat} :
    hP ro n d (11, 2, 1, 1, k156) 0 (lv_args 0 [.ref 0, .int a0]) [] p (fun v1 p1 => hP ro m d' (12, 8, 1, 1, k247) 0 (lv_args 0 [.ref 66, .int a0]) [] p1 (fun v2 p2 => v1 = v2 ∧ hNt T_alk p p2)) := by
  have hb := gh_sz hG
  have hm := gh_mo hG
  obtain ⟨lo, hx, hm2⟩ := hl
  refine X_months lo (ki := a0.toInt) rfl hx (fun j => (gh_2 hG j).1) hb.1 hb.2 hm.1 hm.2 ?_ ?_
  · intro h1
    obtain ⟨q1, q2, q3, q4, q5, q6, -, q7⟩ := pre_M hG hZ hm2 (hNt.refl [] p) (by decide +kernel)
    refine M_months lo (ki := a0.toInt) rfl q1 q2 q3 q4 q5 ?_ ?_
    · intros; exact ⟨rfl, hNt.refl _ _⟩
    · intros; exfalso; omega
  · intro z p1 n1 h1 h2 hz
    obtain ⟨q1, q2, q3, q4, q5, q6, -, q7⟩ := pre_M hG hZ hm2 n1 (by decide +kernel)
    refine M_months lo (ki := a0.toInt) rfl q1 q2 q3 q4 q5 ?_ ?_
    · intros; exfalso; omega
    · intro z2 p2 n2 _ _ hz2
      rw [q7, q6] at hz2
      refine ⟨?_, (n1.up (by decide)).trans (n2.up (by decide))⟩
      rw [Int32.toInt_inj.mp (hz.trans (Eq.trans (cP_e (fun x y gx gy => mo_same2 hG hcr hh (by omega) (by omega) (by omega))) hz2.symm))]
