/-! what is taken from a shelf -/
theorem gh_58 {p : xH} (h : GH jGG p) (k : Nat) : 0 ≤ (rI p 58 k).toInt ∧ (rI p 58 k).toInt < 8 := by
  have h0 : 0 ≤ (rI p 58 k).toInt ∧ (rI p 58 k).toInt ≤ 7 := gh_any h (r := 58) rfl (by decide) (by decide) k
  omega
theorem t_taken {ro : List (List Int32)} (hro : jro ro) {p : xH} (hG : GH jGG p) (hT : C_tw p) (hS : C_sh p) (a0 a1 : Int32) {n m d d' : Nat} :
    hP ro n d (11, 5, 1, 1, k170) 0 (lv_args 0 [.ref 0, .int a0, .int a1]) [] p (fun v1 p1 => hP ro m d' (12, 4, 1, 1, k271) 0 (lv_args 0 [.ref 66, .int a0, .int a1]) [] p1 (fun v2 p2 => v1 = v2 ∧ hNt [] p p2)) := by
  obtain ⟨hc, hr⟩ := hT
  have b97 := gh_97 hG a0.toInt.toNat
  have hs : 0 ≤ a0.toInt → a0.toInt < 6 → C_s1 p a0.toInt.toNat := fun h1 h2 => hS.1 _ (by omega)
  unfold C_s1 at hs
  have k1 := gh_58 hG (rI p 62 a0.toInt.toNat).toInt.toNat
  have k2 := gh_58 hG (rI p 97 a0.toInt.toNat).toInt.toNat
  have k3 : 0 ≤ (rI p 95 (rI p 97 a0.toInt.toNat).toInt.toNat).toInt ∧ (rI p 95 (rI p 97 a0.toInt.toNat).toInt.toNat).toInt < 8 := by rw [← rI_row hr]; exact k2
  refine X_taken hro (xi := a0.toInt) (yi := a1.toInt) rfl rfl k1.1 k1.2 ?_ ?_ ?_ ?_ ?_
  · intro h1
    refine M_taken (xi := a0.toInt) (yi := a1.toInt) rfl rfl k3.1 k3.2 ?_ ?_ ?_ ?_ ?_
    · intros; exact ⟨rfl, hNt.refl _ _⟩
    all_goals (intros; exfalso; omega)
  · intro h1 h2 h3 h4 h5
    have hs := hs h1 h2
    refine M_taken (xi := a0.toInt) (yi := a1.toInt) rfl rfl k3.1 k3.2 ?_ ?_ ?_ ?_ ?_
    · intros; exfalso; omega
    · intros; exact ⟨rfl, hNt.refl _ _⟩
    all_goals (intros; exfalso; omega)
  · intro h1 h2 h3 h4 h5 h6
    have hs := hs h1 h2
    refine M_taken (xi := a0.toInt) (yi := a1.toInt) rfl rfl k3.1 k3.2 ?_ ?_ ?_ ?_ ?_
    · intros; exfalso; omega
    · intros; exfalso; omega
    · intros; exact ⟨rfl, hNt.refl _ _⟩
    all_goals (intros; exfalso; omega)
  · intro h1 h2 h3 h4 h5 h6 h7
    have hs := hs h1 h2
    have e : (rI p 62 a0.toInt.toNat).toInt.toNat = (rI p 97 a0.toInt.toNat).toInt.toNat := by omega
    rw [e, rI_row hr] at h7
    refine M_taken (xi := a0.toInt) (yi := a1.toInt) rfl rfl k3.1 k3.2 ?_ ?_ ?_ ?_ ?_
    · intros; exfalso; omega
    · intros; exfalso; omega
    · intros; exfalso; omega
    · intros; exact ⟨by rw [e, rI_row hr], hNt.refl _ _⟩
    · intro g1 g2 g3 g4 g5 g6 g7; exact absurd h7 g7
  · intro h1 h2 h3 h4 h5 h6 h7
    have hs := hs h1 h2
    have e : (rI p 62 a0.toInt.toNat).toInt.toNat = (rI p 97 a0.toInt.toNat).toInt.toNat := by omega
    rw [e, rI_row hr] at h7
    refine M_taken (xi := a0.toInt) (yi := a1.toInt) rfl rfl k3.1 k3.2 ?_ ?_ ?_ ?_ ?_
    · intros; exfalso; omega
    · intros; exfalso; omega
    · intros; exfalso; omega
    · intro g1 g2 g3 g4 g5 g6 g7; exact absurd g7 h7
    · intros; exact ⟨rfl, hNt.refl _ _⟩
