/-! pass, judge, of both -/
theorem pass_same {p : xH} {lo : Option (List yN)} (hcr : C_cr p) (hh : C_ht p) {x y : Nat} (hx : x < 7) (hy : y < 7) (c : Int) : passX p lo x y c ↔ passM p lo x y c := by
  obtain ⟨c1, c2, c3, c4, c5, -⟩ := hcr
  unfold passX passM mS
  rw [rI_same (c2 x hx), rI_same (c1 x hx), rI_same (c1 y hy), rI_same (hh.1 y), c4, c5]
theorem t_pass {ro : List (List Int32)} {p : xH} (hG : GH jGG p) (hZ : C_sz p) (hcr : C_cr p) (hh : C_ht p) (hl : C_lw p) (a0 : Int32) {n m d d' : Nat} :
    hP ro n d (11, 2, 1, 1, k148) 0 (lv_args 0 [.ref 0, .int a0]) [] p (fun v1 p1 => hP ro m d' (12, 5, 1, 1, k235) 0 (lv_args 0 [.ref 66, .int a0]) [] p1 (fun v2 p2 => v1 = v2 ∧ hNt T_alk p p2)) := by
  have hb := gh_sz hG
  obtain ⟨lo, hx, hm2⟩ := hl
  refine X_pass lo (xi := a0.toInt) rfl hx (fun j => (gh_2 hG j).1) ?_ ?_
  · intro h1
    obtain ⟨q1, q2, q3, q4, q5, q6, -, -⟩ := pre_M hG hZ hm2 (hNt.refl [] p) (by decide +kernel)
    refine M_pass lo (vi := a0.toInt) rfl q1 q2 q3 q4 q5 ?_ ?_
    · intros; exact ⟨rfl, hNt.refl _ _⟩
    · intro z p2 _ g1 g2 g3 g4 _; rw [q6] at g2 g3; exact absurd ⟨g1, g2, g3, g4⟩ h1
  · intro z p1 n1 h1 h2 h3 h4 h5
    obtain ⟨q1, q2, q3, q4, q5, q6, -, -⟩ := pre_M hG hZ hm2 n1 (by decide +kernel)
    refine M_pass lo (vi := a0.toInt) rfl q1 q2 q3 q4 q5 ?_ ?_
    · intro g; rw [q6] at g; exact absurd ⟨h1, h2, h3, h4⟩ g
    · intro z2 p2 n2 _ _ _ _ g5
      have e67 : ∀ j, rI p1 67 j = rI p 67 j := fun j => n1.int (r := 67) rfl
      have e71 : ∀ j, rI p1 71 j = rI p 71 j := fun j => n1.int (r := 71) rfl
      have eM : passM p1 lo = passM p lo := by
        funext x y c
        unfold passM mS
        rw [e67, e67, e67, e67, e67, e71]
      rw [eM] at g5
      refine ⟨?_, (n1.up (by decide)).trans (n2.up (by decide))⟩
      rw [Int32.toInt_inj.mp (hFst_one (fun j _ _ => pass_same hcr hh (by omega) (by omega) j) h5 g5)]
theorem jd_same {p : xH} {lo : Option (List yN)} (hG : GH jGG p) (hcr : C_cr p) (hh : C_ht p) (hD : C_dy p) (hmo : C_mo p) {v x y : Nat} (hx : x < 7) (hy : y < 7) : tDy p 3 (Xal p lo 0) v x y ↔ tDy p 88 (Mal p lo) v x y := by
  have e : ∀ j, rI p 3 j = rI p 88 j := fun j => rI_same (hD j)
  unfold tDy
  rw [e, e, al_same hG hcr hh hmo hx hy]
theorem t_judge {ro : List (List Int32)} {p : xH} (hG : GH jGG p) (hZ : C_sz p) (hcr : C_cr p) (hh : C_ht p) (hD : C_dy p) (hmo : C_mo p) (hl : C_lw p) (a0 : Int32) {n m d d' : Nat} :
    hP ro n d (11, 3, 1, 1, k150) 0 (lv_args 0 [.ref 0, .int a0]) [] p (fun v1 p1 => hP ro m d' (12, 6, 1, 1, k237) 0 (lv_args 0 [.ref 66, .int a0]) [] p1 (fun v2 p2 => v1 = v2 ∧ hNt T_alk p p2)) := by
  have hb := gh_sz hG
  have hm := gh_mo hG
  have e3 : ∀ j, rI p 3 j = rI p 88 j := fun j => rI_same (hD j)
  have b88 : ∀ j, -1 ≤ (rI p 88 j).toInt := fun j => by rw [← e3]; exact (gh_3 hG j).1
  obtain ⟨lo, hx, hm2⟩ := hl
  refine X_judge lo (wi := a0.toInt) rfl hx (fun j => (gh_2 hG j).1) hb.1 hb.2 hm.1 hm.2 ?_ ?_
  · intro h1
    obtain ⟨q1, q2, q3, q4, q5, q6, q7, -⟩ := pre_M hG hZ hm2 (hNt.refl [] p) (by decide +kernel)
    refine M_judge lo (wi := a0.toInt) rfl q1 q2 q3 q4 q5 b88 ?_ ?_
    · intros; exact ⟨rfl, hNt.refl _ _⟩
    · intros; exfalso; omega
  · intro z p1 c n1 h1 h2 hc hz
    obtain ⟨q1, q2, q3, q4, q5, q6, q7, -⟩ := pre_M hG hZ hm2 n1 (by decide +kernel)
    refine M_judge lo (wi := a0.toInt) rfl q1 q2 q3 q4 q5 (fun j => by rw [n1.int (r := 88) rfl]; exact b88 j) ?_ ?_
    · intros; exfalso; omega
    · intro z2 p2 c2 n2 _ _ hc2 hz2
      rw [q7, q6, tDy_e (fun j => n1.int (r := 88) rfl)] at hc2
      have e := hJ_one (fun v x y _ gx gy => jd_same hG hcr hh hD hmo (by omega) (by omega)) hc hc2
      refine ⟨?_, (n1.up (by decide)).trans (n2.up (by decide))⟩
      rw [Int32.toInt_inj.mp (hz.trans ((congrArg (jSel a0.toInt) e).trans hz2.symm))]
