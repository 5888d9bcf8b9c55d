/-! where, waited, of both -/
theorem gh_18 {p : xH} (h : GH jGG p) (k : Nat) : 0 ≤ (rI p 18 k).toInt ∧ (rI p 18 k).toInt ≤ 4 := gh_any h (r := 18) rfl (by decide) (by decide) k
theorem gh_19 {p : xH} (h : GH jGG p) (k : Nat) : 0 ≤ (rI p 19 k).toInt ∧ (rI p 19 k).toInt ≤ 6 := gh_any h (r := 19) rfl (by decide) (by decide) k
theorem hEr_of {p : xH} (hG : GH jGG p) (hem : C_em p) : hEr p := ⟨gh_17 hG, gh_18 hG, fun j => (gh_19 hG j).2, hem⟩
theorem hEm_of {p : xH} (h : hEr p) (hE : C_er p) : hEm p := by
  obtain ⟨a, b, c, d⟩ := h
  obtain ⟨r1, r2, r3⟩ := hE
  exact ⟨fun j => by rw [← rI_same (r1 j)]; exact a j, fun j => by rw [← rI_same (r2 j)]; exact b j, fun j => by rw [← rI_same (r3 j)]; exact c j, fun n hn k hk => by rw [← rI_same (r1 n)] at hk; rw [← rI_same (r3 _)]; exact d n hn k hk⟩
theorem dre_same {p : xH} (hE : C_er p) : dre p 17 = dre p 72 := by
  funext n
  unfold dre
  rw [rI_same (hE.1 n)]
theorem drs_same {p : xH} {r r2 : Nat} (h : ∀ k, rV p r k = rV p r2 k) : drs p r = drs p r2 := by
  funext n k
  unfold drs
  rw [rI_same (h _)]
theorem drt_same {p : xH} (hE : C_er p) : drt p 17 19 = drt p 72 74 := by
  funext n
  unfold drt
  rw [rI_same (hE.1 n)]
  exact hSum_eq (fun j _ => rI_same (hE.2.2 _))
theorem pl_same {p : xH} {lo : Option (List yN)} (hG : GH jGG p) (hcr : C_cr p) (hh : C_ht p) (hE : C_er p) (hmo : C_mo p) {S : Nat} {l : List Nat} (hS : S ≤ 7) (hl : ∀ j ∈ l, j < S) : plX p (Xal p lo 0) S l = plM p (Mal p lo) S l := by
  unfold plX plM
  rw [dre_same hE, drs_same hE.2.1, drs_same hE.2.2]
  exact dL_e (fun _ _ hx hy => al_same hG hcr hh hmo (by omega) (by omega)) hl
abbrev T_day : List (Nat × Nat) := [(20, 4), (23, 9999), (24, 9999), (66, 15), (66, 16), (66, 17), (66, 18), (66, 19), (77, 9999), (33, 9999), (78, 9999), (35, 9999), (36, 9999), (37, 9999), (38, 9999), (39, 9999), (79, 9999), (80, 9999), (81, 9999), (66, 25)]
theorem t_where {ro : List (List Int32)} {p : xH} (hG : GH jGG p) (hZ : C_sz p) (hcr : C_cr p) (hh : C_ht p) (hE : C_er p) (hem : C_em p) (hmo : C_mo p) (hl : C_lw p) (a0 a1 : Int32) {n m d d' : Nat} :
    hP ro n d (11, 3, 1, 1, k140) 0 (lv_args 0 [.ref 0, .int a0, .int a1]) [] p (fun v1 p1 => hP ro m d' (12, 3, 1, 1, k221) 0 (lv_args 0 [.ref 66, .int a0, .int a1]) [] p1 (fun v2 p2 => v1 = v2 ∧ hNt T_day p p2)) := by
  have hb := gh_sz hG
  have hm := gh_mo hG
  have e1 := hEr_of hG hem
  have e2 := hEm_of e1 hE
  obtain ⟨lo, hx, hm2⟩ := hl
  refine X_where lo (xi := a0.toInt) (mi := a1.toInt) rfl rfl hx (fun j => (gh_2 hG j).1) hb.1 hb.2 hm.1 hm.2 e1 ?_ ?_
  · intro h1
    obtain ⟨q1, q2, q3, q4, q5, q6, q7, -⟩ := pre_M hG hZ hm2 (hNt.refl [] p) (by decide +kernel)
    refine M_where lo (xi := a0.toInt) (mi := a1.toInt) rfl rfl q1 q2 q3 q4 q5 e2 ?_ ?_
    · intros; exact ⟨rfl, hNt.refl _ _⟩
    · intro z p2 _ g1 g2 g3 g4 _; rw [q6] at g2; exact absurd ⟨g1, g2, g3, g4⟩ h1
  · intro z p1 n1 h1 h2 h3 h4 hz
    obtain ⟨q1, q2, q3, q4, q5, q6, q7, -⟩ := pre_M hG hZ hm2 n1 (by decide +kernel)
    have u72 : ∀ j, rI p1 72 j = rI p 72 j := fun j => n1.int (r := 72) rfl
    have u73 : ∀ j, rI p1 73 j = rI p 73 j := fun j => n1.int (r := 73) rfl
    have u74 : ∀ j, rI p1 74 j = rI p 74 j := fun j => n1.int (r := 74) rfl
    refine M_where lo (xi := a0.toInt) (mi := a1.toInt) rfl rfl q1 q2 q3 q4 q5 (hEm_e e2 u72 u73 u74) ?_ ?_
    · intro g; rw [q6] at g; exact absurd ⟨h1, h2, h3, h4⟩ g
    · intro z2 p2 n2 _ _ _ _ hz2
      rw [q7, q6, plM_e u72 u73 u74, ← pl_same hG hcr hh hE hmo (by omega) (fun j hj => dN_mem.mp hj)] at hz2
      refine ⟨?_, (n1.up (by decide)).trans (n2.up (by decide))⟩
      rw [Int32.toInt_inj.mp (hz.trans hz2.symm)]
theorem t_waited {ro : List (List Int32)} {p : xH} (hG : GH jGG p) (hZ : C_sz p) (hcr : C_cr p) (hh : C_ht p) (hE : C_er p) (hem : C_em p) (hmo : C_mo p) (hl : C_lw p) (a0 a1 : Int32) {n m d d' : Nat} :
    hP ro n d (11, 3, 1, 1, k141) 0 (lv_args 0 [.ref 0, .int a0, .int a1]) [] p (fun v1 p1 => hP ro m d' (12, 3, 1, 1, k222) 0 (lv_args 0 [.ref 66, .int a0, .int a1]) [] p1 (fun v2 p2 => v1 = v2 ∧ hNt T_day p p2)) := by
  have hb := gh_sz hG
  have hm := gh_mo hG
  have e1 := hEr_of hG hem
  have e2 := hEm_of e1 hE
  obtain ⟨lo, hx, hm2⟩ := hl
  refine X_waited lo (xi := a0.toInt) (yi := a1.toInt) rfl rfl hx (fun j => (gh_2 hG j).1) hb.1 hb.2 hm.1 hm.2 e1 ?_ ?_ ?_
  · intro h1
    obtain ⟨q1, q2, q3, q4, q5, q6, q7, -⟩ := pre_M hG hZ hm2 (hNt.refl [] p) (by decide +kernel)
    refine M_waited lo (xi := a0.toInt) (yi := a1.toInt) rfl rfl q1 q2 q3 q4 q5 e2 ?_ ?_ ?_
    · intros; exact ⟨rfl, hNt.refl _ _⟩
    · intro z p2 _ g1 g2 g3 _; rw [q6] at g2; exact absurd ⟨g1, g2, by omega, by omega⟩ h1
    · intro z p2 _ g1 g2 g3 _; rw [q6] at g2; exact absurd ⟨g1, g2, by omega, by omega⟩ h1
  · intro z p1 n1 h1 h2 h3 hz
    obtain ⟨q1, q2, q3, q4, q5, q6, q7, -⟩ := pre_M hG hZ hm2 n1 (by decide +kernel)
    have u72 : ∀ j, rI p1 72 j = rI p 72 j := fun j => n1.int (r := 72) rfl
    have u73 : ∀ j, rI p1 73 j = rI p 73 j := fun j => n1.int (r := 73) rfl
    have u74 : ∀ j, rI p1 74 j = rI p 74 j := fun j => n1.int (r := 74) rfl
    refine M_waited lo (xi := a0.toInt) (yi := a1.toInt) rfl rfl q1 q2 q3 q4 q5 (hEm_e e2 u72 u73 u74) ?_ ?_ ?_
    · intro g; rw [q6] at g; exact absurd ⟨h1, h2, by omega, by omega⟩ g
    · intro z2 p2 n2 _ _ _ hz2
      rw [q7, q6, plM_e u72 u73 u74, ← pl_same hG hcr hh hE hmo (by omega) (fun j hj => dN_mem.mp hj), drt_e u72 u74, ← drt_same hE] at hz2
      refine ⟨?_, (n1.up (by decide)).trans (n2.up (by decide))⟩
      rw [hz.trans hz2.symm]
    · intros; exfalso; omega
  · intro z p1 n1 h1 h2 h3 hz
    obtain ⟨q1, q2, q3, q4, q5, q6, q7, -⟩ := pre_M hG hZ hm2 n1 (by decide +kernel)
    have u72 : ∀ j, rI p1 72 j = rI p 72 j := fun j => n1.int (r := 72) rfl
    have u73 : ∀ j, rI p1 73 j = rI p 73 j := fun j => n1.int (r := 73) rfl
    have u74 : ∀ j, rI p1 74 j = rI p 74 j := fun j => n1.int (r := 74) rfl
    refine M_waited lo (xi := a0.toInt) (yi := a1.toInt) rfl rfl q1 q2 q3 q4 q5 (hEm_e e2 u72 u73 u74) ?_ ?_ ?_
    · intro g; rw [q6] at g; exact absurd ⟨h1, h2, by omega, by omega⟩ g
    · intros; exfalso; omega
    · intro z2 p2 n2 _ _ _ hz2
      rw [q7, q6, plM_e u72 u73 u74, ← pl_same hG hcr hh hE hmo (by omega) (fun j hj => dN_mem.mp hj)] at hz2
      refine ⟨?_, (n1.up (by decide)).trans (n2.up (by decide))⟩
      rw [Int32.toInt_inj.mp (hz.trans hz2.symm)]
