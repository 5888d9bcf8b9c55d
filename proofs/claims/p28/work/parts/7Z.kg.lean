/-! kinds, gone, of both -/
theorem kd_same {p : xH} {lo : Option (List yN)} (hG : GH jGG p) (hcr : C_cr p) (hh : C_ht p) (hmo : C_mo p) {S : Nat} (hS : S ≤ 7) {n : Nat} {g g' : Int32} (h : hGr (KD (Xal p lo 0) S) n g) (h' : hGr (KD (Mal p lo) S) n g') : g = g' :=
  hGr_one (fun z => KD_e (fun _ _ hx hy => al_same hG hcr hh hmo (by omega) (by omega)) z) h h'
theorem t_kinds {ro : List (List Int32)} {p : xH} (hG : GH jGG p) (hZ : C_sz p) (hcr : C_cr p) (hh : C_ht p) (hmo : C_mo p) (hl : C_lw p) (a0 : Int32) {n m d d' : Nat} :
    hP ro n d (11, 3, 1, 1, k147) 0 (lv_args 0 [.ref 0, .int a0]) [] p (fun v1 p1 => hP ro m d' (12, 4, 1, 1, k234) 0 (lv_args 0 [.ref 66, .int a0]) [] p1 (fun v2 p2 => v1 = v2 ∧ hNt T_alk p p2)) := by
  have hb := gh_sz hG
  have hm := gh_mo hG
  obtain ⟨lo, hx, hm2⟩ := hl
  refine X_kinds lo (ki := a0.toInt) rfl hx (fun j => (gh_2 hG j).1) hb.1 hb.2 hm.1 hm.2 ?_ ?_ ?_
  · intro h1
    obtain ⟨q1, q2, q3, q4, q5, q6, q7, -⟩ := pre_M hG hZ hm2 (hNt.refl [] p) (by decide +kernel)
    refine M_kinds lo (ki := a0.toInt) rfl q1 q2 q3 q4 q5 ?_ ?_ ?_
    · intros; exact ⟨rfl, hNt.refl _ _⟩
    · intros; exfalso; omega
    · intros; exfalso; omega
  · intro z p1 y n1 h1 hz hy
    obtain ⟨q1, q2, q3, q4, q5, q6, q7, -⟩ := pre_M hG hZ hm2 n1 (by decide +kernel)
    refine M_kinds lo (ki := a0.toInt) rfl q1 q2 q3 q4 q5 ?_ ?_ ?_
    · intros; exfalso; omega
    · intro z2 p2 y2 n2 _ hz2 hy2
      rw [q7, q6] at hz2
      refine ⟨?_, (n1.up (by decide)).trans (n2.up (by decide))⟩
      rw [hy, hy2, kd_same hG hcr hh hmo (by omega) hz hz2]
    · intros; exfalso; omega
  · intro z p1 n1 h1 hz
    obtain ⟨q1, q2, q3, q4, q5, q6, q7, -⟩ := pre_M hG hZ hm2 n1 (by decide +kernel)
    refine M_kinds lo (ki := a0.toInt) rfl q1 q2 q3 q4 q5 ?_ ?_ ?_
    · intros; exfalso; omega
    · intros; exfalso; omega
    · intro z2 p2 n2 _ hz2
      rw [q7, q6] at hz2
      refine ⟨?_, (n1.up (by decide)).trans (n2.up (by decide))⟩
      rw [kd_same hG hcr hh hmo (by omega) hz hz2]
theorem cn_same {p : xH} (hcr : C_cr p) (hh : C_ht p) (hS : C_si p) {j n : Nat} (hj : j < 7) (hn : n < 10) : cnX p j n ↔ cnM p j n := by
  obtain ⟨c1, c2, -⟩ := hcr
  unfold cnX cnM
  rw [rI_same (c1 j hj), rI_same (hh.1 j), rI_same (c2 j hj), rI_same (hS.2 n hn).2.2]
theorem go_same {p : xH} (hZ : C_sz p) (hcr : C_cr p) (hh : C_ht p) (hS : C_si p) (hb : (rI p 13 7).toInt ≤ 7) (hn : (rI p 66 34).toInt ≤ 10) (m : Int) (j : Nat) : goX p m j ↔ goM p m j := by
  have hZ0 : rI p 13 7 = rI p 66 6 := hZ
  unfold goX goM
  rw [← hZ0, hS.1]
  refine and_congr_right (fun hj => not_congr ⟨?_, ?_⟩)
  · rintro ⟨n, a, b, c⟩
    refine ⟨n, a, ?_, (cn_same hcr hh hS (by omega) (by omega)).mp c⟩
    show m ≤ (rI p 89 (3 * n)).toInt
    rw [← rI_same (hS.2 n (by omega)).1]
    exact b
  · rintro ⟨n, a, b, c⟩
    refine ⟨n, a, ?_, (cn_same hcr hh hS (by omega) (by omega)).mpr c⟩
    show m ≤ (rI p 4 n).toInt
    rw [rI_same (hS.2 n (by omega)).1]
    exact b
theorem goM_nt {T : List (Nat × Nat)} {p p1 : xH} (n1 : hNt T p p1) (e : jWF T [(66, 6), (66, 34), (67, 9999), (71, 9999), (89, 9999)] = true) : goM p1 = goM p := by
  have sm := n1.sm e
  funext m j
  have ec : cnM p1 = cnM p := by
    funext j n
    unfold cnM
    rw [sm.int (r := 67) rfl, sm.int (r := 71) rfl, sm.int (r := 67) rfl, sm.int (r := 89) rfl]
  have em : (fun n => m ≤ (rI p1 89 (3 * n)).toInt) = fun n => m ≤ (rI p 89 (3 * n)).toInt := by
    funext n
    rw [sm.int (r := 89) rfl]
  unfold goM
  rw [ec, em, sm.int (r := 66) (k := 6) rfl, sm.int (r := 66) (k := 34) rfl]
theorem t_gone {ro : List (List Int32)} {p : xH} (hG : GH jGG p) (hZ : C_sz p) (hcr : C_cr p) (hh : C_ht p) (hS : C_si p) (hmo : C_mo p) (hl : C_lw p) (a0 a1 : Int32) {n m d d' : Nat} :
    hP ro n d (11, 4, 1, 1, k155) 0 (lv_args 0 [.ref 0, .int a0, .int a1]) [] p (fun v1 p1 => hP ro m d' (12, 6, 1, 1, k246) 0 (lv_args 0 [.ref 66, .int a0, .int a1]) [] p1 (fun v2 p2 => v1 = v2 ∧ hNt T_alk p p2)) := by
  have hb := gh_sz hG
  have hm := gh_mo hG
  have b34 := gh_34 hG
  have s1 : rI p 1 5 = rI p 66 34 := hS.1
  obtain ⟨lo, hx, hm2⟩ := hl
  refine X_gone lo (xi := a0.toInt) (yi := a1.toInt) rfl rfl hx (fun j => (gh_2 hG j).1) hb.1 hb.2 hm.1 hm.2 (by rw [s1]; exact b34.1) ?_ ?_ ?_
  · intro h1
    obtain ⟨q1, q2, q3, q4, q5, q6, q7, -⟩ := pre_M hG hZ hm2 (hNt.refl [] p) (by decide +kernel)
    refine M_gone lo (xi := a0.toInt) (yi := a1.toInt) rfl rfl q1 q2 q3 q4 q5 b34.1 b34.2 ?_ ?_ ?_
    · intros; exact ⟨rfl, hNt.refl _ _⟩
    · intro z g1 g2 _; exact absurd ⟨g1.1, g1.2, by omega, by omega⟩ h1
    · intro z p2 v _ g1 g2 _ _; exact absurd ⟨g1.1, g1.2, by omega, by omega⟩ h1
  · intro z h1 h2 hz
    obtain ⟨q1, q2, q3, q4, q5, q6, q7, -⟩ := pre_M hG hZ hm2 (hNt.refl [] p) (by decide +kernel)
    refine M_gone lo (xi := a0.toInt) (yi := a1.toInt) rfl rfl q1 q2 q3 q4 q5 b34.1 b34.2 ?_ ?_ ?_
    · intro g; exact absurd ⟨h1.1, h1.2, by omega, by omega⟩ g
    · intro z2 _ _ hz2
      rw [hBt_one hz hz2 (go_same hZ hcr hh hS hb.2 b34.2 _)]
      exact ⟨rfl, hNt.refl _ _⟩
    · intros; exfalso; omega
  · intro z p1 v n1 h1 h2 hv hz
    obtain ⟨q1, q2, q3, q4, q5, q6, q7, -⟩ := pre_M hG hZ hm2 n1 (by decide +kernel)
    have f34 : rI p1 66 34 = rI p 66 34 := n1.int (r := 66) (k := 34) rfl
    refine M_gone lo (xi := a0.toInt) (yi := a1.toInt) rfl rfl q1 q2 q3 q4 q5 (by rw [f34]; exact b34.1) (by rw [f34]; exact b34.2) ?_ ?_ ?_
    · intro g; exact absurd ⟨h1.1, h1.2, by omega, by omega⟩ g
    · intros; exfalso; omega
    · intro z2 p2 v2 n2 _ _ hv2 hz2
      rw [goM_nt n1 (by decide +kernel)] at hv2
      rw [q7, q6] at hz2
      have ev := hBt_one hv hv2 (go_same hZ hcr hh hS hb.2 b34.2 _)
      subst ev
      refine ⟨?_, (n1.up (by decide)).trans (n2.up (by decide))⟩
      rw [hBt_one hz hz2 (fun j => Dl_e (fun _ _ gx gy => al_same hG hcr hh hmo (by omega) (by omega)))]
