/-! how many -/
theorem t_count {ro : List (List Int32)} {p : xH} (hG : GH jGG p) (hZ : C_sz p) (hch : C_ch p) (her : C_er p) (hsi : C_si p) (htw : C_tw p) (hac : C_ac p) (htp : C_tp p) (a0 : Int32) {n m d d' : Nat} :
    hP ro n d (11, 2, 1, 1, k171) 0 (lv_args 0 [.ref 0, .int a0]) [] p (fun v1 p1 => hP ro m d' (12, 2, 1, 1, k272) 0 (lv_args 0 [.ref 66, .int a0]) [] p1 (fun v2 p2 => v1 = v2 ∧ hNt [] p p2)) := by
  have hb := gh_sz hG
  have hZ0 : rI p 13 7 = rI p 66 6 := hZ
  have e17 : (fun j => rI p 17 j) = fun j => rI p 72 j := funext fun j => rI_same (her.1 j)
  have b1 : 0 ≤ (rI p 66 6).toInt := by rw [← hZ0]; exact hb.1
  have b2 : (rI p 66 6).toInt ≤ 7 := by rw [← hZ0]; exact hb.2
  refine X_count (xi := a0.toInt) rfl hb.1 hb.2 ?_ ?_ ?_ ?_ ?_ ?_ ?_ ?_ <;> intro h <;> refine M_count (xi := a0.toInt) rfl b1 b2 ?_ ?_ ?_ ?_ ?_ ?_ ?_ ?_ <;> intro g <;> first
    | (exfalso; omega)
    | exact ⟨by rw [e17, hZ0], hNt.refl _ _⟩
    | exact ⟨by rw [hZ0], hNt.refl _ _⟩
    | exact ⟨by rw [hsi.1], hNt.refl _ _⟩
    | exact ⟨by rw [htp.1], hNt.refl _ _⟩
    | exact ⟨by rw [hch.1], hNt.refl _ _⟩
    | exact ⟨by rw [htw.1], hNt.refl _ _⟩
    | exact ⟨by rw [hac.1], hNt.refl _ _⟩
    | exact ⟨rfl, hNt.refl _ _⟩
