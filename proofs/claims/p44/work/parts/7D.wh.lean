/-! who -/
/-- both take the same people for it -/
theorem who_same {p : xH} (hZ : C_sz p) (hb : (rI p 13 7).toInt ≤ 7) (hcr : C_cr p) (hh : C_ht p) (hS : C_si p) {x : Nat} (hx : x < 10) {r s : Int32} (h : hBs (fun j => hCan (rI p 14 j) (rI p 2 j) (rI p 15 j) (rI p 6 x)) (rI p 13 7).toInt.toNat r) (g : hBs (fun j => hCan (rI p 67 j) (rI p 71 j) (rI p 67 (7 + j)) (rI p 89 (3 * x + 2))) (rI p 66 6).toInt.toNat s) : r = s := by
  have hZ0 : rI p 13 7 = rI p 66 6 := hZ
  obtain ⟨c1, c2, c3, c4, c5, c6⟩ := hcr
  have e2 : ∀ k, rI p 2 k = rI p 71 k := rI_row hh.1
  refine hBs_one (hBs_eq (fun j hj => ?_) h) (by rw [hZ0]; exact g)
  show hCan (rI p 14 j) (rI p 2 j) (rI p 15 j) (rI p 6 x) ↔ hCan (rI p 67 j) (rI p 71 j) (rI p 67 (7 + j)) (rI p 89 (3 * x + 2))
  rw [rI_same (c1 j (by omega)), e2, rI_same (c2 j (by omega)), rI_same (hS.2 x hx).2.2]
theorem t_who {ro : List (List Int32)} {p : xH} (hG : GH jGG p) (hZ : C_sz p) (hcr : C_cr p) (hh : C_ht p) (hS : C_si p) (a0 : Int32) {n m d d' : Nat} :
    hP ro n d (11, 2, 1, 1, k154) 0 (lv_args 0 [.ref 0, .int a0]) [] p (fun v1 p1 => hP ro m d' (12, 2, 1, 1, k245) 0 (lv_args 0 [.ref 66, .int a0]) [] p1 (fun v2 p2 => v1 = v2 ∧ hNt [] p p2)) := by
  have hb := gh_sz hG
  have hZ0 : rI p 13 7 = rI p 66 6 := hZ
  have b34 := gh_34 hG
  have b1 : 0 ≤ (rI p 66 6).toInt := by rw [← hZ0]; exact hb.1
  have b2 : (rI p 66 6).toInt ≤ 7 := by rw [← hZ0]; exact hb.2
  have s1 : rI p 1 5 = rI p 66 34 := hS.1
  refine X_who (xi := a0.toInt) rfl hb.1 hb.2 (fun j => (gh_2 hG j).1) ?_ ?_
  · intro h1
    rw [s1] at h1
    refine M_who (xi := a0.toInt) rfl b1 b2 b34.1 b34.2 ?_ ?_
    · intros; exact ⟨rfl, hNt.refl _ _⟩
    · intros; exfalso; omega
  · intro z h1 h2 h3
    rw [s1] at h2
    refine M_who (xi := a0.toInt) rfl b1 b2 b34.1 b34.2 ?_ ?_
    · intros; exfalso; omega
    · intro z2 g1 g2 g3; exact ⟨by rw [who_same hZ hb.2 hcr hh hS (by omega) h3 g3], hNt.refl _ _⟩
