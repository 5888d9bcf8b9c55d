/-! watch -/
theorem gh_3 {p : xH} (h : GH jGG p) (k : Nat) : -1 ≤ (rI p 3 k).toInt ∧ (rI p 3 k).toInt ≤ 4 := gh_any h (r := 3) rfl (by decide) (by decide) k
theorem t_watch {ro : List (List Int32)} {p : xH} (hG : GH jGG p) (hZ : C_sz p) (hD : C_dy p) (a0 a1 : Int32) {n m d d' : Nat} :
    hP ro n d (11, 3, 1, 1, k151) 0 (lv_args 0 [.ref 0, .int a0, .int a1]) [] p (fun v1 p1 => hP ro m d' (12, 8, 1, 1, k238) 0 (lv_args 0 [.ref 66, .int a0, .int a1]) [] p1 (fun v2 p2 => v1 = v2 ∧ hNt [] p p2)) := by
  have hb := gh_sz hG
  have hZ0 : rI p 13 7 = rI p 66 6 := hZ
  have f3 : rI p 3 = rI p 88 := funext (rI_row hD)
  have b1 : 0 ≤ (rI p 66 6).toInt := by rw [← hZ0]; exact hb.1
  have b2 : (rI p 66 6).toInt ≤ 7 := by rw [← hZ0]; exact hb.2
  refine X_watch (xi := a0.toInt) (yi := a1.toInt) rfl rfl hb.2 (gh_3 hG) ?_ ?_ ?_
  · intro h1
    rw [hZ0] at h1
    refine M_watch (xi := a0.toInt) (yi := a1.toInt) rfl rfl b1 b2 (fun j => by rw [← f3]; exact gh_3 hG j) ?_ ?_ ?_
    · intros; exact ⟨rfl, hNt.refl _ _⟩
    · intros; exfalso; omega
    · intros; exfalso; omega
  · intro z h1 h2 h3 h4 h5 h6
    rw [hZ0] at h2 h3
    rw [f3] at h6
    refine M_watch (xi := a0.toInt) (yi := a1.toInt) rfl rfl b1 b2 (fun j => by rw [← f3]; exact gh_3 hG j) ?_ ?_ ?_
    · intros; exfalso; omega
    · intro z2 g1 g2 g3 g4 g5 g6; exact ⟨by rw [Int32.toInt_inj.mp (hFi_one h6 g6)], hNt.refl _ _⟩
    · intros; exfalso; omega
  · intro z h1 h2 h3 h4 h5 h6
    rw [hZ0] at h2 h3
    rw [f3] at h6
    refine M_watch (xi := a0.toInt) (yi := a1.toInt) rfl rfl b1 b2 (fun j => by rw [← f3]; exact gh_3 hG j) ?_ ?_ ?_
    · intros; exfalso; omega
    · intros; exfalso; omega
    · intro z2 g1 g2 g3 g4 g5 g6; exact ⟨by rw [Int32.toInt_inj.mp (h6.trans g6.symm)], hNt.refl _ _⟩
