/-! the relation of the image: flags; hats; days; sights -/
abbrev F_fl : List (Nat × Nat) := [(0, 2), (0, 3), (66, 38), (66, 39)]
def C_fl (p : xH) : Prop := rI p 0 2 = rI p 66 38 ∧ rI p 0 3 = rI p 66 39
theorem C_fl_fr {p p1 : xH} (h : hSm F_fl p p1) (c : C_fl p) : C_fl p1 := ⟨by rw [h.int (r := 0) (k := 2) rfl, h.int (r := 66) (k := 38) rfl]; exact c.1, by rw [h.int (r := 0) (k := 3) rfl, h.int (r := 66) (k := 39) rfl]; exact c.2⟩
abbrev F_ht : List (Nat × Nat) := [(13, 7), (2, 9999), (71, 9999)]
def C_ht (p : xH) : Prop := (∀ k, rV p 2 k = rV p 71 k) ∧ ∀ k, (rI p 13 7).toInt.toNat ≤ k → k < 7 → rV p 2 k = .int (-1)
theorem C_ht_up {p p1 : xH} (h2 : ∀ k, rV p1 2 k = rV p 2 k) (h71 : ∀ k, rV p1 71 k = rV p 71 k) (hz : (rI p 13 7).toInt ≤ (rI p1 13 7).toInt) (c : C_ht p) : C_ht p1 := ⟨fun k => by rw [h2, h71]; exact c.1 k, fun k a b => by rw [h2]; exact c.2 k (by omega) b⟩
theorem C_ht_fr {p p1 : xH} (h : hSm F_ht p p1) (c : C_ht p) : C_ht p1 := C_ht_up (fun k => h 2 k rfl) (fun k => h 71 k rfl) (by rw [h.int (r := 13) (k := 7) rfl]; exact Int.le_refl _) c
abbrev F_imh : List (Nat × Nat) := [(0, 2), (13, 7), (8, 9999), (92, 9999)]
def C_imh (p : xH) : Prop := (rI p 0 2).toInt = 0 ∨ ((∀ k, rV p 8 k = rV p 92 k) ∧ ∀ k, (rI p 13 7).toInt.toNat ≤ k → k < 7 → rV p 8 k = .int (-1))
theorem C_imh_up {p p1 : xH} (h0 : rI p1 0 2 = rI p 0 2) (h2 : ∀ k, rV p1 8 k = rV p 8 k) (h71 : ∀ k, rV p1 92 k = rV p 92 k) (hz : (rI p 13 7).toInt ≤ (rI p1 13 7).toInt) (c : C_imh p) : C_imh p1 := by
  unfold C_imh at c ⊢
  rw [h0]
  rcases c with c | c
  · exact Or.inl c
  · exact Or.inr ⟨fun k => by rw [h2, h71]; exact c.1 k, fun k a b => by rw [h2]; exact c.2 k (by omega) b⟩
theorem C_imh_fr {p p1 : xH} (h : hSm F_imh p p1) (c : C_imh p) : C_imh p1 := C_imh_up (h.int rfl) (fun k => h 8 k rfl) (fun k => h 92 k rfl) (by rw [h.int (r := 13) (k := 7) rfl]; exact Int.le_refl _) c
abbrev F_imd : List (Nat × Nat) := [(0, 2), (9, 9999), (93, 9999)]
def C_imd (p : xH) : Prop := (rI p 0 2).toInt = 0 ∨ ∀ k, rV p 9 k = rV p 93 k
theorem C_imd_fr {p p1 : xH} (h : hSm F_imd p p1) (c : C_imd p) : C_imd p1 := by
  unfold C_imd at c ⊢
  rw [h.int (r := 0) (k := 2) rfl]
  exact c.imp id (fun c k => by rw [h 9 k rfl, h 93 k rfl]; exact c k)
abbrev F_si : List (Nat × Nat) := [(1, 5), (66, 34), (4, 9999), (5, 9999), (6, 9999), (89, 9999)]
def C_si (p : xH) : Prop := rI p 1 5 = rI p 66 34 ∧ ∀ k, k < 10 → rV p 4 k = rV p 89 (3 * k) ∧ rV p 5 k = rV p 89 (3 * k + 1) ∧ rV p 6 k = rV p 89 (3 * k + 2)
theorem C_si_fr {p p1 : xH} (h : hSm F_si p p1) (c : C_si p) : C_si p1 := ⟨by rw [h.int (r := 1) (k := 5) rfl, h.int (r := 66) (k := 34) rfl]; exact c.1, fun k hk => by rw [h 4 _ rfl, h 5 _ rfl, h 6 _ rfl, h 89 _ rfl, h 89 _ rfl, h 89 _ rfl]; exact c.2 k hk⟩
abbrev F_ims : List (Nat × Nat) := [(0, 2), (7, 5), (66, 40), (10, 9999), (11, 9999), (12, 9999), (94, 9999)]
def C_ims (p : xH) : Prop := (rI p 0 2).toInt = 0 ∨ (rI p 7 5 = rI p 66 40 ∧ ∀ k, k < 10 → rV p 10 k = rV p 94 (3 * k) ∧ rV p 11 k = rV p 94 (3 * k + 1) ∧ rV p 12 k = rV p 94 (3 * k + 2))
theorem C_ims_fr {p p1 : xH} (h : hSm F_ims p p1) (c : C_ims p) : C_ims p1 := by
  unfold C_ims at c ⊢
  rw [h.int (r := 0) (k := 2) rfl]
  exact c.imp id (fun c => ⟨by rw [h.int (r := 7) (k := 5) rfl, h.int (r := 66) (k := 40) rfl]; exact c.1, fun k hk => by rw [h 10 _ rfl, h 11 _ rfl, h 12 _ rfl, h 94 _ rfl, h 94 _ rfl, h 94 _ rfl]; exact c.2 k hk⟩)
abbrev T_img : List (Nat × Nat) := [(0, 2), (0, 3), (66, 38), (66, 39), (66, 40), (7, 5), (8, 9999), (9, 9999), (10, 9999), (11, 9999), (12, 9999), (92, 9999), (93, 9999), (94, 9999)]
theorem t_image0 {ro : List (List Int32)} {p : xH} (hG : GH jGG p) (hZ : C_sz p) {n m d d' : Nat} :
    hP ro n d (11, 1, 1, 1, k158) 0 (lv_args 0 [.ref 0]) [] p (fun v1 p1 => hP ro m d' (12, 2, 1, 1, k249) 0 (lv_args 0 [.ref 66]) [] p1 (fun v2 p2 => v1 = v2 ∧ hNt T_img p p2 ∧ C_fl p2 ∧ (C_ht p → C_imh p2) ∧ (C_dy p → C_imd p2) ∧ (C_si p → C_ims p2))) := by
  have hb := gh_sz hG
  have hZ0 : rI p 13 7 = rI p 66 6 := hZ
  refine X_image ?_
  intro p1 p2 z h1 w1 e2 hz
  refine hp_hw (fun w2 => ?_)
  obtain ⟨c0, c1, c2, c3, c4, c5, c6⟩ := h1
  have n1 : hNt T_img p p1 := c0.up (by decide)
  have n2 : hNt T_img p p2 := by rw [e2]; exact (n1.w rfl).w rfl
  have f66 : rI p2 66 6 = rI p 13 7 := by rw [n2.int rfl, hZ0]
  have fz : z = rI p 13 7 := by rw [hz]; exact n1.int rfl
  refine M_image (by rw [f66]; exact hb.1) ?_
  intro q pA pB pC z2 eq oA oB oC hz2 wA wB
  have n3 : hNt T_img p q := by rw [eq]; exact ((n2.w rfl).w rfl).w rfl
  have n4 : hNt T_img p pA := n3.on oA (fun _ => rfl)
  have n5 : hNt T_img p pB := n4.on oB (fun _ => rfl)
  have n6 : hNt T_img p pC := n5.on oC (fun _ => rfl)
  have v1 : hW (wV p2 66 38 (.int 1)) := hW_wV w2 rfl
  have v2 : hW (wV (wV p2 66 38 (.int 1)) 66 39 (.int (rI p2 66 6))) := hW_wV v1 rfl
  have u1 : hW (wV p1 0 2 (.int 1)) := hW_wV w1 rfl
  have a02 : rI pC 0 2 = 1 := by rw [oC.int (by decide), oB.int (by decide), oA.int (by decide), eq, rI_o (by decide), rI_o (by decide), rI_o (by decide), e2, rI_ne (fun _ => by decide), rI_eq w1 (by decide)]
  have a03 : rI pC 0 3 = z := by rw [oC.int (by decide), oB.int (by decide), oA.int (by decide), eq, rI_o (by decide), rI_o (by decide), rI_o (by decide), e2, rI_eq u1 (by decide)]
  have b38 : rI pC 66 38 = 1 := by rw [oC.int (by decide), oB.int (by decide), oA.int (by decide), eq, rI_ne (fun _ => by decide), rI_ne (fun _ => by decide), rI_eq w2 (by decide)]
  have b39 : rI pC 66 39 = rI p 13 7 := by rw [oC.int (by decide), oB.int (by decide), oA.int (by decide), eq, rI_ne (fun _ => by decide), rI_eq v1 (by decide), f66]
  have b40 : rI pC 66 40 = rI p 66 34 := by rw [oC.int (by decide), oB.int (by decide), oA.int (by decide), eq, rI_eq v2 (by decide), n2.int rfl]
  have sz : rI pC 13 7 = rI p 13 7 := n6.int rfl
  refine ⟨by rw [fz, hz2, n6.int (r := 66) (k := 6) rfl, hZ0], n6, ⟨by rw [a02, b38], by rw [a03, b39, fz]⟩, fun hH => ?_, fun hD => ?_, fun hI => ?_⟩
  · right
    have r8 : ∀ k, rV pC 8 k = rV p 2 k := fun k => by
      rw [oC.1 8 k (by decide), oB.1 8 k (by decide), oA.1 8 k (by decide), eq, rV_ne (fun z => absurd z (by decide)), rV_ne (fun z => absurd z (by decide)), rV_ne (fun z => absurd z (by decide)), e2, rV_ne (fun z => absurd z (by decide)), rV_ne (fun z => absurd z (by decide))]
      exact c2 k
    have r92 : ∀ k, rV pC 92 k = rV p 2 k := fun k => by
      rw [oC.1 92 k (by decide), oB.1 92 k (by decide), oA.2 k]
      have s : rI q 66 6 = rI p 13 7 := by rw [n3.int (r := 66) (k := 6) rfl, hZ0]
      dsimp only
      rw [s]
      by_cases k7 : k < 7
      · rw [if_pos ⟨Nat.zero_le _, k7⟩]
        by_cases ks : k < (rI p 13 7).toInt.toNat
        · rw [if_pos ks, n3 71 k rfl, hH.1 k]
        · rw [if_neg ks, hH.2 k (by omega) k7]
      · have hw := hW_of hG
        rw [if_neg (by omega), rV_out (hW_of hG) (r := 2) rfl (by show 7 ≤ k; omega)]
        have : hW q := by rw [eq]; exact hW_wV v2 rfl
        exact rV_out this (r := 92) rfl (by show 7 ≤ k; omega)
    exact ⟨fun k => by rw [r8, r92], fun k a b => by rw [r8]; rw [sz] at a; exact hH.2 k a b⟩
  · right
    intro k
    have r93 : rV pC 93 k = rV p 88 k := by
      rw [oC.1 93 k (by decide), hCo_all oB wA rfl rfl rfl rfl k]
      exact n4 88 k rfl
    rw [r93, oC.1 9 k (by decide), oB.1 9 k (by decide), oA.1 9 k (by decide), eq, rV_ne (fun z => absurd z (by decide)), rV_ne (fun z => absurd z (by decide)), rV_ne (fun z => absurd z (by decide)), e2, rV_ne (fun z => absurd z (by decide)), rV_ne (fun z => absurd z (by decide)), show rV p1 9 k = rV p 3 k from c3 k]
    exact hD k
  · right
    have r94 : ∀ k, rV pC 94 k = rV p 89 k := fun k => by
      rw [hCo_all oC wB rfl rfl rfl rfl k]
      exact n5 89 k rfl
    have down : ∀ r k, r ≠ 0 → r ≠ 66 → r ≠ 92 → r ≠ 93 → r ≠ 94 → rV pC r k = rV p1 r k := fun r k z1 z2 z3 z4 z5 => by
      rw [oC.1 r k z5, oB.1 r k z4, oA.1 r k z3, eq, rV_ne (fun z => absurd z z2), rV_ne (fun z => absurd z z2), rV_ne (fun z => absurd z z2), e2, rV_ne (fun z => absurd z z1), rV_ne (fun z => absurd z z1)]
    refine ⟨?_, fun k hk => ?_⟩
    · rw [b40, ← hI.1]
      have : rI pC 7 5 = rI p1 7 5 := by unfold rI; rw [down 7 5 (by decide) (by decide) (by decide) (by decide) (by decide)]
      rw [this]
      exact c1
    · obtain ⟨i1, i2, i3⟩ := hI.2 k hk
      rw [r94, r94, r94, down 10 k (by decide) (by decide) (by decide) (by decide) (by decide), down 11 k (by decide) (by decide) (by decide) (by decide) (by decide), down 12 k (by decide) (by decide) (by decide) (by decide) (by decide)]
      exact ⟨(c4 k).trans i1, (c5 k).trans i2, (c6 k).trans i3⟩
abbrev T_back : List (Nat × Nat) := [(1, 5), (2, 9999), (3, 9999), (4, 9999), (5, 9999), (6, 9999), (66, 34), (71, 9999), (88, 9999), (89, 9999)]
theorem t_back0 {ro : List (List Int32)} {p : xH} (hG : GH jGG p) (hF : C_fl p) {n m d d' : Nat} :
    hP ro n d (11, 1, 1, 1, k159) 0 (lv_args 0 [.ref 0]) [] p (fun v1 p1 => hP ro m d' (12, 2, 1, 1, k250) 0 (lv_args 0 [.ref 66]) [] p1 (fun v2 p2 => v1 = v2 ∧ hNt T_back p p2 ∧ (C_ht p → C_imh p → C_ht p2) ∧ (C_dy p → C_imd p → C_dy p2) ∧ (C_si p → C_ims p → C_si p2))) := by
  obtain ⟨g1, g2⟩ := hF
  refine X_back ?_ ?_
  · intro h1
    refine M_back ?_ ?_
    · intro h2; exact ⟨rfl, hNt.refl _ _, fun a _ => a, fun a _ => a, fun a _ => a⟩
    · intros; rw [g1] at h1; exfalso; omega
  · intro p1 z h0 h1 hz
    refine hp_hw (fun w1 => ?_)
    obtain ⟨c0, c1, c2, c3, c4, c5, c6⟩ := h1
    have n1 : hNt T_back p p1 := c0.up (by decide)
    have f38 : rI p1 66 38 = rI p 0 2 := by rw [n1.int rfl, g1]
    refine M_back ?_ ?_
    · intro h2; rw [f38] at h2; exfalso; omega
    · intro q pA pB pC z2 h2 eq oA oB oC hz2 wA wB
      have n3 : hNt T_back p q := by rw [eq]; exact n1.w rfl
      have n4 : hNt T_back p pA := n3.on oA (fun _ => rfl)
      have n5 : hNt T_back p pB := n4.on oB (fun _ => rfl)
      have n6 : hNt T_back p pC := n5.on oC (fun _ => rfl)
      have wq : hW q := by rw [eq]; exact hW_wV w1 rfl
      have sz : rI pC 13 7 = rI p 13 7 := n6.int rfl
      have down : ∀ r k, r ≠ 66 → r ≠ 71 → r ≠ 88 → r ≠ 89 → rV pC r k = rV p1 r k := fun r k z2 z3 z4 z5 => by
        rw [oC.1 r k z5, oB.1 r k z4, oA.1 r k z3, eq, rV_ne (fun z => absurd z z2)]
      refine ⟨by rw [hz, hz2, n1.int (r := 0) (k := 3) rfl, n6.int (r := 66) (k := 39) rfl, g2], n6, fun hH hI => ?_, fun hD hI => ?_, fun hS hI => ?_⟩
      · rcases hI with hI | hI
        · exfalso; omega
        · have r2 : ∀ k, rV pC 2 k = rV p 8 k := fun k => by rw [down 2 k (by decide) (by decide) (by decide) (by decide)]; exact c2 k
          have r71 : ∀ k, rV pC 71 k = rV p 92 k := fun k => by
            rw [oC.1 71 k (by decide), oB.1 71 k (by decide), hCo_all oA wq rfl rfl rfl rfl k]
            exact n3 92 k rfl
          exact ⟨fun k => by rw [r2, r71]; exact hI.1 k, fun k a b => by rw [r2]; rw [sz] at a; exact hI.2 k a b⟩
      · rcases hI with hI | hI
        · exfalso; omega
        · intro k
          have r88 : rV pC 88 k = rV p 93 k := by
            rw [oC.1 88 k (by decide), hCo_all oB wA rfl rfl rfl rfl k]
            exact n4 93 k rfl
          rw [r88, down 3 k (by decide) (by decide) (by decide) (by decide), show rV p1 3 k = rV p 9 k from c3 k]
          exact hI k
      · rcases hI with hI | hI
        · exfalso; omega
        · have r89 : ∀ k, rV pC 89 k = rV p 94 k := fun k => by
            rw [hCo_all oC wB rfl rfl rfl rfl k]
            exact n5 94 k rfl
          refine ⟨?_, fun k hk => ?_⟩
          · have e1 : rI pC 1 5 = rI p 7 5 := by
              have : rI pC 1 5 = rI p1 1 5 := by unfold rI; rw [down 1 5 (by decide) (by decide) (by decide) (by decide)]
              rw [this]; exact c1
            have e2 : rI pC 66 34 = rI p 66 40 := by rw [oC.int (by decide), oB.int (by decide), oA.int (by decide), eq, rI_eq w1 (by decide), n1.int rfl]
            rw [e1, e2]; exact hI.1
          · obtain ⟨i1, i2, i3⟩ := hI.2 k hk
            rw [r89, r89, r89, down 4 k (by decide) (by decide) (by decide) (by decide), down 5 k (by decide) (by decide) (by decide) (by decide), down 6 k (by decide) (by decide) (by decide) (by decide)]
            exact ⟨(c4 k).trans i1, (c5 k).trans i2, (c6 k).trans i3⟩
