/-! of -/
theorem gh_2 {p : xH} (h : GH jGG p) (k : Nat) : -1 ≤ (rI p 2 k).toInt ∧ (rI p 2 k).toInt ≤ 5 := gh_any h (r := 2) rfl (by decide) (by decide) k
theorem t_of {ro : List (List Int32)} {p : xH} (hG : GH jGG p) (hZ : C_sz p) (hcr : C_cr p) (hh : C_ht p) (hE : C_er p) (hS : C_si p) (a0 a1 : Int32) {n m d d' : Nat} :
    hP ro n d (11, 3, 1, 1, k133) 0 (lv_args 0 [.ref 0, .int a0, .int a1]) [] p (fun v1 p1 => hP ro m d' (12, 3, 1, 1, k195) 0 (lv_args 0 [.ref 66, .int a0, .int a1]) [] p1 (fun v2 p2 => v1 = v2 ∧ hNt [] p p2)) := by
  have hb := gh_sz hG
  have hZ0 : rI p 13 7 = rI p 66 6 := hZ
  obtain ⟨c1, c2, c3, c4, c5, c6⟩ := hcr
  obtain ⟨r1, r2, r3⟩ := hE
  obtain ⟨s1, s2⟩ := hS
  have b17 := gh_17 hG a0.toInt.toNat
  have b34 := gh_34 hG
  have e17 : ∀ k, rI p 17 k = rI p 72 k := rI_row r1
  have e2 : ∀ k, rI p 2 k = rI p 71 k := rI_row hh.1
  have f19 : rI p 19 = rI p 74 := funext (rI_row r3)
  have b1 : 0 ≤ (rI p 66 6).toInt := by rw [← hZ0]; exact hb.1
  have b2 : (rI p 66 6).toInt ≤ 7 := by rw [← hZ0]; exact hb.2
  have b3 : 0 ≤ (rI p 72 a0.toInt.toNat).toInt := by rw [← e17]; exact b17.1
  have b4 : (rI p 72 a0.toInt.toNat).toInt ≤ 7 := by rw [← e17]; omega
  have eT : 0 ≤ a0.toInt → a0.toInt < (rI p 66 6).toInt → 0 ≤ a1.toInt → a1.toInt ≤ 2 → hTd p a0.toInt.toNat a1.toInt = rI p 67 (7 * a1.toInt + a0.toInt).toNat := by
    intro x1 x2 x3 x4
    unfold hTd
    by_cases y0 : a1.toInt = 0
    · rw [if_pos y0, show (7 * a1.toInt + a0.toInt).toNat = a0.toInt.toNat by omega]; exact rI_same (c1 _ (by omega))
    · rw [if_neg y0]
      by_cases y1 : a1.toInt = 1
      · rw [if_pos y1, show (7 * a1.toInt + a0.toInt).toNat = 7 + a0.toInt.toNat by omega]; exact rI_same (c2 _ (by omega))
      · rw [if_neg y1, if_pos (by omega), show (7 * a1.toInt + a0.toInt).toNat = 14 + a0.toInt.toNat by omega]; exact rI_same (c3 _ (by omega))
  refine X_of (xi := a0.toInt) (yi := a1.toInt) rfl rfl hb.2 (gh_2 hG _).1 b17.1 (by omega) ?_ ?_ ?_ ?_ ?_ ?_ ?_ ?_ ?_ ?_ ?_
  · intro h1
    rw [hZ0, s1] at h1
    refine M_of (xi := a0.toInt) (yi := a1.toInt) rfl rfl b1 b2 b34.1 b34.2 b3 b4 ?_ ?_ ?_ ?_ ?_ ?_ ?_ ?_
    · intros; exact ⟨rfl, hNt.refl _ _⟩
    · intros; exfalso; omega
    · intros; exfalso; omega
    · intros; exfalso; omega
    · intros; exfalso; omega
    · intros; exfalso; omega
    · intros; exfalso; omega
    · intros; exfalso; omega
  · intro h1 h2 h3
    rw [hZ0] at h2
    refine M_of (xi := a0.toInt) (yi := a1.toInt) rfl rfl b1 b2 b34.1 b34.2 b3 b4 ?_ ?_ ?_ ?_ ?_ ?_ ?_ ?_
    · intros; exfalso; omega
    · intros; exact ⟨by rw [e2], hNt.refl _ _⟩
    · intros; exfalso; omega
    · intros; exfalso; omega
    · intros; exfalso; omega
    · intros; exfalso; omega
    · intros; exfalso; omega
    · intros; exfalso; omega
  · intro z h1 h2 h3 h4
    rw [hZ0] at h2
    refine M_of (xi := a0.toInt) (yi := a1.toInt) rfl rfl b1 b2 b34.1 b34.2 b3 b4 ?_ ?_ ?_ ?_ ?_ ?_ ?_ ?_
    · intros; exfalso; omega
    · intros; exfalso; omega
    · intro z2 g1 g2 g3 g4; exact ⟨by rw [h4, g4, e2, rI_same (c1 _ (by omega))], hNt.refl _ _⟩
    · intros; exfalso; omega
    · intros; exfalso; omega
    · intros; exfalso; omega
    · intros; exfalso; omega
    · intros; exfalso; omega
  · intro h1 h2 h3
    rw [hZ0] at h2
    refine M_of (xi := a0.toInt) (yi := a1.toInt) rfl rfl b1 b2 b34.1 b34.2 b3 b4 ?_ ?_ ?_ ?_ ?_ ?_ ?_ ?_
    · intros; exfalso; omega
    · intros; exfalso; omega
    · intros; exfalso; omega
    · intros; exact ⟨by rw [e17], hNt.refl _ _⟩
    · intros; exfalso; omega
    · intros; exfalso; omega
    · intros; exfalso; omega
    · intros; exfalso; omega
  · intro h1 h2 h3
    rw [hZ0] at h2
    refine M_of (xi := a0.toInt) (yi := a1.toInt) rfl rfl b1 b2 b34.1 b34.2 b3 b4 ?_ ?_ ?_ ?_ ?_ ?_ ?_ ?_
    · intros; exfalso; omega
    · intros; exfalso; omega
    · intros; exfalso; omega
    · intros; exfalso; omega
    · intros; exact ⟨by rw [f19, e17], hNt.refl _ _⟩
    · intros; exfalso; omega
    · intros; exfalso; omega
    · intros; exfalso; omega
  · intro z h1 h2 h3 h4 h5
    rw [hZ0] at h2
    refine M_of (xi := a0.toInt) (yi := a1.toInt) rfl rfl b1 b2 b34.1 b34.2 b3 b4 ?_ ?_ ?_ ?_ ?_ ?_ ?_ ?_
    · intros; exfalso; omega
    · intros; exfalso; omega
    · intros; exfalso; omega
    · intros; exfalso; omega
    · intros; exfalso; omega
    · intro z2 g1 g2 g3 g4 g5; exact ⟨by rw [h5, g5, eT h1 h2 h3 h4], hNt.refl _ _⟩
    · intros; exfalso; omega
    · intros; exfalso; omega
  · intro h1 h2 h3
    rw [s1] at h2
    refine M_of (xi := a0.toInt) (yi := a1.toInt) rfl rfl b1 b2 b34.1 b34.2 b3 b4 ?_ ?_ ?_ ?_ ?_ ?_ ?_ ?_
    · intros; exfalso; omega
    · intros; exfalso; omega
    · intros; exfalso; omega
    · intros; exfalso; omega
    · intros; exfalso; omega
    · intros; exfalso; omega
    · intro z2 g1 g2 g3 g4 g5; exact ⟨by rw [g5, show (3 * a0.toInt + a1.toInt - 20).toNat = 3 * a0.toInt.toNat by omega, rI_same (s2 a0.toInt.toNat (by omega)).1], hNt.refl _ _⟩
    · intros; exfalso; omega
  · intro h1 h2 h3
    rw [s1] at h2
    refine M_of (xi := a0.toInt) (yi := a1.toInt) rfl rfl b1 b2 b34.1 b34.2 b3 b4 ?_ ?_ ?_ ?_ ?_ ?_ ?_ ?_
    · intros; exfalso; omega
    · intros; exfalso; omega
    · intros; exfalso; omega
    · intros; exfalso; omega
    · intros; exfalso; omega
    · intros; exfalso; omega
    · intro z2 g1 g2 g3 g4 g5; exact ⟨by rw [g5, show (3 * a0.toInt + a1.toInt - 20).toNat = 3 * a0.toInt.toNat + 1 by omega, rI_same (s2 a0.toInt.toNat (by omega)).2.1], hNt.refl _ _⟩
    · intros; exfalso; omega
  · intro h1 h2 h3
    rw [s1] at h2
    refine M_of (xi := a0.toInt) (yi := a1.toInt) rfl rfl b1 b2 b34.1 b34.2 b3 b4 ?_ ?_ ?_ ?_ ?_ ?_ ?_ ?_
    · intros; exfalso; omega
    · intros; exfalso; omega
    · intros; exfalso; omega
    · intros; exfalso; omega
    · intros; exfalso; omega
    · intros; exfalso; omega
    · intro z2 g1 g2 g3 g4 g5; exact ⟨by rw [g5, show (3 * a0.toInt + a1.toInt - 20).toNat = 3 * a0.toInt.toNat + 2 by omega, rI_same (s2 a0.toInt.toNat (by omega)).2.2], hNt.refl _ _⟩
    · intros; exfalso; omega
  · intro h1 h2
    refine M_of (xi := a0.toInt) (yi := a1.toInt) rfl rfl b1 b2 b34.1 b34.2 b3 b4 ?_ ?_ ?_ ?_ ?_ ?_ ?_ ?_
    · intros; exfalso; omega
    · intros; exfalso; omega
    · intros; exfalso; omega
    · intros; exfalso; omega
    · intros; exfalso; omega
    · intros; exfalso; omega
    · intros; exfalso; omega
    · intro z2 g1 g2 g3 g4; exact ⟨by rw [g4, show (11 + a1.toInt).toNat = 21 by omega, c4], hNt.refl _ _⟩
  · intro h1 h2
    refine M_of (xi := a0.toInt) (yi := a1.toInt) rfl rfl b1 b2 b34.1 b34.2 b3 b4 ?_ ?_ ?_ ?_ ?_ ?_ ?_ ?_
    · intros; exfalso; omega
    · intros; exfalso; omega
    · intros; exfalso; omega
    · intros; exfalso; omega
    · intros; exfalso; omega
    · intros; exfalso; omega
    · intros; exfalso; omega
    · intro z2 g1 g2 g3 g4; exact ⟨by rw [g4, show (11 + a1.toInt).toNat = 22 by omega, c5], hNt.refl _ _⟩
