/-! the month stays below 12 -/
abbrev F_mo : List (Nat × Nat) := [(13, 9), (52, 6), (54, 9999), (55, 9999), (56, 9999)]
def C_mo (p : xH) : Prop := (rI p 13 9).toInt < 12 ∧ ∀ k, k < (rI p 52 6).toInt.toNat → (rI p 54 k).toInt = 4 → (rI p 55 k).toInt < 12 ∧ (rI p 56 k).toInt < 12
theorem C_mo_fr {p p1 : xH} (h : hSm F_mo p p1) (c : C_mo p) : C_mo p1 := by
  refine ⟨by rw [h.int (r := 13) (k := 9) rfl]; exact c.1, fun k hk h4 => ?_⟩
  rw [h.int (r := 52) (k := 6) rfl] at hk
  rw [h.int (r := 54) rfl] at h4
  rw [h.int (r := 55) rfl, h.int (r := 56) rfl]
  exact c.2 k hk h4
theorem hp_and {ro : List (List Int32)} {n d : Nat} {q : xQ} {pc : Nat} {ls : xL} {st : List Value} {p : xH} {Q R : Option Value → xH → Prop} (h : hP ro n d q pc ls st p Q) (g : hP ro n d q pc ls st p R) : hP ro n d q pc ls st p (fun r p' => Q r p' ∧ R r p') := fun hw r p' e => ⟨(h hw r p' e).1, (h hw r p' e).2, (g hw r p' e).2⟩
/-- one more is told -/
theorem mo_add {p q p2 : xH} {x y z v : Int32} {m : Nat} {s : Int} (hc : C_mo p) (wq : hW q) (hm : (rI q 52 5).toInt = m) (hm2 : m < 40) (hs7 : s ≤ 7) (hmay : hMay s x.toInt y.toInt v.toInt) (hz : z = hTd p x.toInt.toNat y.toInt)
    (h9 : rI q 13 9 = rI p 13 9) (hrow : ∀ k, k < m → ∃ j, j < (rI p 52 6).toInt.toNat ∧ rI q 54 k = rI p 54 j ∧ rI q 55 k = rI p 55 j ∧ rI q 56 k = rI p 56 j) (e : p2 = hTl (hAdd q x y z v) x.toInt.toNat y.toInt v) : C_mo p2 := by
  have hmay2 := hMay_ok hs7 hmay
  have wa : hW (hAdd q x y z v) := hAdd_hW wq
  obtain ⟨-, -, -, -, t9, -⟩ := hTl_rows (v := v) (n := x.toInt.toNat) (w := y.toInt) wa (by omega) hmay2.2.2.1 hmay2.2.2.2.1
  obtain ⟨-, r54, r55, r56, -, r6⟩ := hAdd_rows (n := x) (w := y) (b := z) (v := v) wq hm hm2
  have v12 : y.toInt = 4 → v.toInt < 12 := fun h => by unfold hMay at hmay; omega
  have z12 : y.toInt = 4 → z.toInt < 12 := fun h => by
    rw [hz]
    unfold hTd
    rw [if_neg (by omega), if_neg (by omega), if_neg (by omega), if_neg (by omega)]
    exact hc.1
  have o : ∀ r j, r ≠ 13 → r ≠ 14 → r ≠ 15 → r ≠ 16 → rI p2 r j = rI (hAdd q x y z v) r j := fun r j a b c d => by rw [e]; exact rI_eqv (hTl_o a b c d)
  refine ⟨?_, fun k hk h4 => ?_⟩
  · rw [e, t9]
    by_cases g : y.toInt = 4
    · rw [if_pos g]; exact v12 g
    · rw [if_neg g, show rI (hAdd q x y z v) 13 9 = rI q 13 9 from rI_eqv (hAdd_o (by decide) (by decide) (by decide) (by decide) (by decide)), h9]; exact hc.1
  · rw [o 52 6 (by decide) (by decide) (by decide) (by decide)] at hk
    rw [o 54 k (by decide) (by decide) (by decide) (by decide)] at h4
    rw [o 55 k (by decide) (by decide) (by decide) (by decide), o 56 k (by decide) (by decide) (by decide) (by decide)]
    by_cases g : k = m
    · have s54 : rI (hAdd q x y z v) 54 k = y := rI_int (by rw [r54, if_pos g])
      have s55 : rI (hAdd q x y z v) 55 k = z := rI_int (by rw [r55, if_pos g])
      have s56 : rI (hAdd q x y z v) 56 k = v := rI_int (by rw [r56, if_pos g])
      rw [s54] at h4
      rw [s55, s56]
      exact ⟨z12 h4, v12 h4⟩
    · have s54 : rI (hAdd q x y z v) 54 k = rI q 54 k := rI_eqv (by rw [r54, if_neg g])
      have s55 : rI (hAdd q x y z v) 55 k = rI q 55 k := rI_eqv (by rw [r55, if_neg g])
      have s56 : rI (hAdd q x y z v) 56 k = rI q 56 k := rI_eqv (by rw [r56, if_neg g])
      obtain ⟨j, j1, j2, j3, j4⟩ := hrow k (by omega)
      rw [s54, j2] at h4
      rw [s55, s56, j3, j4]
      exact hc.2 j j1 h4
theorem x_mend_mo {ro : List (List Int32)} {p : xH} (hG : GH jGG p) (hch : C_ch p) (hc : C_mo p) (a0 a1 a2 : Int32) {n d : Nat} :
    hP ro n d (11, 5, 1, 1, k131) 0 (lv_args 0 [.ref 0, .int a0, .int a1, .int a2]) [] p (fun _ p1 => C_mo p1) := by
  have hw := hW_of hG
  have hmd := gh_made hG
  have hb := gh_sz hG
  have h56 := hch.2.2.1
  refine X_mend (xi := a0.toInt) (yi := a1.toInt) (vi := a2.toInt) rfl rfl rfl ?_ ?_ ?_ ?_
  · intro _; exact hc
  · intro z _ _ _; exact hc
  · intro z p2 h1 h2 h3 h4 e
    exact mo_add hc hw (m := (rI p 52 5).toInt.toNat) (by omega) (by omega) hb.2 h1 h2 rfl (fun k hk => ⟨k, by omega, rfl, rfl, rfl⟩) e
  · intro z p1 q p2 h1 h2 h3 h4 h5 h6 h7 e
    obtain ⟨n1, d53, d54, d55, d56⟩ := h5
    have wq : hW q := by rw [h7]; exact hW_wV h6 rfl
    have o : ∀ r j, r ≠ 52 → rI q r j = rI p1 r j := fun r j hr => by rw [h7, rI_o hr]
    have sh : ∀ r k, hDn r 40 p p1 → k < 39 → rI p1 r k = rI p r (k + 1) := fun r k hd hk => rI_eqv (by rw [hd k, if_pos (by omega)])
    refine mo_add hc wq (m := 39) (by rw [h7, rI_eq h6 (by decide)]; decide) (by decide) hb.2 h1 h2 (by rw [o 13 9 (by decide), n1.int (r := 13) (k := 9) rfl]) (fun k hk => ⟨k + 1, by omega, ?_, ?_, ?_⟩) e
    · rw [o 54 k (by decide), sh 54 k d54 hk]
    · rw [o 55 k (by decide), sh 55 k d55 hk]
    · rw [o 56 k (by decide), sh 56 k d56 hk]
theorem mo_tell {p q p2 : xH} {k : Nat} {v : Int32} (hc : C_mo p) (hk : hOkc p k) (wq : hW q) (sm : ∀ r j, r ≠ 52 ∨ j ≠ 5 → rV q r j = rV p r j) (hv : (rI p 54 k).toInt = 4 → v.toInt < 12) (e : p2 = hTl q (rI p 53 k).toInt.toNat (rI p 54 k).toInt v) : C_mo p2 := by
  obtain ⟨u1, u2, u3, u4, -⟩ := hk
  obtain ⟨-, -, -, -, t9, -⟩ := hTl_rows (v := v) (n := (rI p 53 k).toInt.toNat) (w := (rI p 54 k).toInt) wq (by omega) u3 u4
  have o : ∀ r j, r ≠ 13 → r ≠ 14 → r ≠ 15 → r ≠ 16 → (r ≠ 52 ∨ j ≠ 5) → rI p2 r j = rI p r j := fun r j a b c d g => rI_eqv (by rw [e, hTl_o a b c d]; exact sm r j g)
  refine ⟨?_, fun j hj h4 => ?_⟩
  · rw [e, t9]
    by_cases g : (rI p 54 k).toInt = 4
    · rw [if_pos g]; exact hv g
    · rw [if_neg g, rI_eqv (sm 13 9 (Or.inl (by decide)))]; exact hc.1
  · rw [o 52 6 (by decide) (by decide) (by decide) (by decide) (Or.inr (by decide))] at hj
    rw [o 54 j (by decide) (by decide) (by decide) (by decide) (Or.inl (by decide))] at h4
    rw [o 55 j (by decide) (by decide) (by decide) (by decide) (Or.inl (by decide)), o 56 j (by decide) (by decide) (by decide) (by decide) (Or.inl (by decide))]
    exact hc.2 j hj h4
theorem x_undo_mo {ro : List (List Int32)} {p : xH} (hG : GH jGG p) (hch : C_ch p) (hc : C_mo p) {n d : Nat} :
    hP ro n d (11, 1, 1, 1, k160) 0 (lv_args 0 [.ref 0]) [] p (fun _ p1 => C_mo p1) := by
  have hw := hW_of hG
  have hmd := gh_made hG
  obtain ⟨g1, g2, g3, g4⟩ := hch
  refine X_undo (fun j => gh_54 hG j) ?_ ?_
  · intro _; exact hc
  · intro z q p1 y h1 hz eq ep _
    have iz := i_sub hz rfl (show (1 : Int32).toInt = 1 from by decide)
    exact mo_tell hc (g4 z.toInt.toNat (by omega)) (by rw [eq]; exact hW_wV hw rfl) (fun r j hr => by rw [eq]; exact rV_ne (fun e1 e2 => by rcases hr with g | g; exact g e1; exact g e2)) (fun h => (hc.2 _ (by omega) h).1) ep
theorem x_redo_mo {ro : List (List Int32)} {p : xH} (hG : GH jGG p) (hch : C_ch p) (hc : C_mo p) {n d : Nat} :
    hP ro n d (11, 1, 1, 1, k161) 0 (lv_args 0 [.ref 0]) [] p (fun _ p1 => C_mo p1) := by
  have hw := hW_of hG
  have hmd := gh_made hG
  obtain ⟨g1, g2, g3, g4⟩ := hch
  refine X_redo (fun j => gh_54 hG j) ?_ ?_
  · intro _; exact hc
  · intro q p1 y h1 eq ep _
    have hq := mo_tell hc (g4 (rI p 52 5).toInt.toNat (by omega)) hw (fun _ _ _ => rfl) (fun h => (hc.2 _ (by omega) h).2) eq
    have sm : ∀ r j, r ≠ 52 ∨ j ≠ 5 → rI p1 r j = rI q r j := fun r j hr => by rw [ep]; exact rI_ne (fun e1 e2 => by rcases hr with g | g; exact g e1; exact g e2)
    refine ⟨by rw [sm 13 9 (Or.inl (by decide))]; exact hq.1, fun k hk h4 => ?_⟩
    rw [sm 52 6 (Or.inr (by decide))] at hk
    rw [sm 54 k (Or.inl (by decide))] at h4
    rw [sm 55 k (Or.inl (by decide)), sm 56 k (Or.inl (by decide))]
    exact hq.2 k hk h4
theorem x_turn_mo {ro : List (List Int32)} {p : xH} (hG : GH jGG p) (hc : C_mo p) {n d : Nat} :
    hP ro n d (11, 1, 1, 1, k157) 0 (lv_args 0 [.ref 0]) [] p (fun _ p1 => C_mo p1) := by
  have hb := gh_sz hG
  have hm := gh_mo hG
  refine X_turn hb.1 hb.2 hm.1 (by omega) ?_
  intro pA z p1 oA hz e1 wpA
  have o : ∀ r j, r ≠ 13 → r ≠ 14 → rI p1 r j = rI p r j := fun r j a b => by rw [e1, rI_o a]; exact oA.int b
  refine ⟨by rw [e1, rI_eq wpA (by decide), hz]; omega, fun k hk h4 => ?_⟩
  rw [o 52 6 (by decide) (by decide)] at hk
  rw [o 54 k (by decide) (by decide)] at h4
  rw [o 55 k (by decide) (by decide), o 56 k (by decide) (by decide)]
  exact hc.2 k hk h4
/-! the reference's part of it -/
theorem m_mend_mo {ro : List (List Int32)} {p : xH} (h1 : 0 ≤ (rI p 66 6).toInt) (h2 : (rI p 66 6).toInt ≤ 7) (hc : C_mo p) (a0 a1 a2 : Int32) {n d : Nat} :
    hP ro n d (12, 4, 1, 1, k190) 0 (lv_args 0 [.ref 66, .int a0, .int a1, .int a2]) [] p (fun _ p1 => C_mo p1) := by
  have o : ∀ {q : xH} {u a z v : Int32} {j : Nat}, hNt [(68, 9999), (69, 9999), (70, 9999), (66, 4), (66, 5), (67, 9999)] p q → hNt [(68, 9999), (69, 9999), (70, 9999), (66, 4), (66, 5), (67, 9999)] p (wV (hAddM q u a z v) 67 j (.int v)) := fun h => by
    unfold hAddM
    exact (((((h.w rfl).w rfl).w rfl).w rfl).w rfl).w rfl
  refine M_mend (xi := a0.toInt) (yi := a1.toInt) (vi := a2.toInt) rfl rfl rfl h1 h2 ?_ ?_ ?_ ?_
  · intro _; exact hc
  · intro a z _ _ _ _; exact hc
  · intro a z p2 _ _ _ _ _ e
    exact C_mo_fr ((show hNt [(68, 9999), (69, 9999), (70, 9999), (66, 4), (66, 5), (67, 9999)] p p2 from by rw [e]; exact o (hNt.refl _ _)).sm (by decide)) hc
  · intro a z q1 u q p2 _ _ _ _ _ g1 _ _ g2 e
    exact C_mo_fr ((show hNt [(68, 9999), (69, 9999), (70, 9999), (66, 4), (66, 5), (67, 9999)] p p2 from by rw [e]; exact o (by rw [g2]; exact (g1.1.up (by decide)).w rfl)).sm (by decide)) hc
theorem m_undo_mo {ro : List (List Int32)} {p : xH} (hc : C_mo p) {n d : Nat} :
    hP ro n d (12, 1, 1, 1, k179) 0 (lv_args 0 [.ref 66]) [] p (fun _ p1 => C_mo p1) := by
  refine M_undo ?_ ?_
  · intro _; exact hc
  · intro z q p2 _ _ e1 e2
    exact C_mo_fr ((show hNt [(66, 5), (67, 9999)] p p2 from by rw [e2, e1]; exact ((hNt.refl _ _).w rfl).w rfl).sm (by decide)) hc
theorem m_redo_mo {ro : List (List Int32)} {p : xH} (hc : C_mo p) {n d : Nat} :
    hP ro n d (12, 1, 1, 1, k180) 0 (lv_args 0 [.ref 66]) [] p (fun _ p1 => C_mo p1) := by
  refine M_redo ?_ ?_
  · intro _; exact hc
  · intro q p2 y _ e1 e2 _
    exact C_mo_fr ((show hNt [(66, 5), (67, 9999)] p p2 from by rw [e2, e1]; exact ((hNt.refl _ _).w rfl).w rfl).sm (by decide)) hc
theorem m_turn_mo {ro : List (List Int32)} {p : xH} (h1 : 0 ≤ (rI p 66 6).toInt) (h2 : (rI p 66 6).toInt ≤ 7) (h3 : 0 ≤ (rI p 67 22).toInt) (h4 : (rI p 67 22).toInt < 100) (hc : C_mo p) {n d : Nat} :
    hP ro n d (12, 2, 1, 1, k248) 0 (lv_args 0 [.ref 66]) [] p (fun _ p1 => C_mo p1) := by
  refine M_turn h1 h2 h3 h4 ?_
  intro pA z p2 oA _ e _
  exact C_mo_fr ((show hNt [(67, 9999)] p p2 from by rw [e]; exact (((hNt.refl _ _).on oA (fun _ => rfl)).w rfl)).sm (by decide)) hc
/-! both together -/
theorem t_mend2 {ro : List (List Int32)} {p : xH} (hG : GH jGG p) (hZ : C_sz p) (hcr : C_cr p) (hch : C_ch p) (hmo : C_mo p) (a0 a1 a2 : Int32) {n m d d' : Nat} :
    hP ro n d (11, 5, 1, 1, k131) 0 (lv_args 0 [.ref 0, .int a0, .int a1, .int a2]) [] p (fun v1 p1 => hP ro m d' (12, 4, 1, 1, k190) 0 (lv_args 0 [.ref 66, .int a0, .int a1, .int a2]) [] p1 (fun v2 p2 => v1 = v2 ∧ hNt T_mend p p2 ∧ C_cr p2 ∧ C_ch p2 ∧ C_mo p2)) := by
  have hb := gh_sz hG
  have hZ0 : rI p 13 7 = rI p 66 6 := hZ
  have hn : hP ro n d (11, 5, 1, 1, k131) 0 (lv_args 0 [.ref 0, .int a0, .int a1, .int a2]) [] p (fun _ p1 => rI p1 66 6 = rI p 66 6) := by
    refine X_mend (xi := a0.toInt) (yi := a1.toInt) (vi := a2.toInt) rfl rfl rfl ?_ ?_ ?_ ?_
    · intro _; rfl
    · intro z _ _ _; rfl
    · intro z p2 _ _ _ _ e; rw [e]; exact rI_eqv (by rw [hTl_o (by decide) (by decide) (by decide) (by decide), hAdd_o (by decide) (by decide) (by decide) (by decide) (by decide)])
    · intro z p1 q p2 _ _ _ _ g1 _ g2 e; rw [e]; exact rI_eqv (by rw [hTl_o (by decide) (by decide) (by decide) (by decide), hAdd_o (by decide) (by decide) (by decide) (by decide) (by decide), g2, rV_ne (fun z => absurd z (by decide)), g1.1 66 6 rfl])
  refine hp_imp (hp_and (t_mend (m := m) (d' := d') hG hZ hcr hch a0 a1 a2) (hp_and (x_mend_mo hG hch hmo a0 a1 a2) hn)) (fun v1 p1 _ h => ?_)
  exact hp_imp (hp_and h.1 (m_mend_mo (by rw [h.2.2, ← hZ0]; exact hb.1) (by rw [h.2.2, ← hZ0]; exact hb.2) h.2.1 a0 a1 a2)) (fun v2 p2 _ k => ⟨k.1.1, k.1.2.1, k.1.2.2.1, k.1.2.2.2, k.2⟩)
theorem t_undo2 {ro : List (List Int32)} {p : xH} (hG : GH jGG p) (hcr : C_cr p) (hch : C_ch p) (hmo : C_mo p) {n m d d' : Nat} :
    hP ro n d (11, 1, 1, 1, k160) 0 (lv_args 0 [.ref 0]) [] p (fun v1 p1 => hP ro m d' (12, 1, 1, 1, k179) 0 (lv_args 0 [.ref 66]) [] p1 (fun v2 p2 => v1 = v2 ∧ hNt T_mend p p2 ∧ C_cr p2 ∧ C_ch p2 ∧ C_mo p2)) :=
  hp_imp (hp_and (t_undo hG hcr hch) (x_undo_mo hG hch hmo)) (fun v1 p1 _ h => hp_imp (hp_and h.1 (m_undo_mo h.2)) (fun v2 p2 _ k => ⟨k.1.1, k.1.2.1, k.1.2.2.1, k.1.2.2.2, k.2⟩))
theorem t_redo2 {ro : List (List Int32)} {p : xH} (hG : GH jGG p) (hcr : C_cr p) (hch : C_ch p) (hmo : C_mo p) {n m d d' : Nat} :
    hP ro n d (11, 1, 1, 1, k161) 0 (lv_args 0 [.ref 0]) [] p (fun v1 p1 => hP ro m d' (12, 1, 1, 1, k180) 0 (lv_args 0 [.ref 66]) [] p1 (fun v2 p2 => v1 = v2 ∧ hNt T_mend p p2 ∧ C_cr p2 ∧ C_ch p2 ∧ C_mo p2)) :=
  hp_imp (hp_and (t_redo hG hcr hch) (x_redo_mo hG hch hmo)) (fun v1 p1 _ h => hp_imp (hp_and h.1 (m_redo_mo h.2)) (fun v2 p2 _ k => ⟨k.1.1, k.1.2.1, k.1.2.2.1, k.1.2.2.2, k.2⟩))
theorem t_turn2 {ro : List (List Int32)} {p : xH} (hG : GH jGG p) (hZ : C_sz p) (hcr : C_cr p) (hmo : C_mo p) {n m d d' : Nat} :
    hP ro n d (11, 1, 1, 1, k157) 0 (lv_args 0 [.ref 0]) [] p (fun v1 p1 => hP ro m d' (12, 2, 1, 1, k248) 0 (lv_args 0 [.ref 66]) [] p1 (fun v2 p2 => v1 = v2 ∧ hNt T_turn p p2 ∧ C_cr p2 ∧ C_mo p2)) := by
  have hb := gh_sz hG
  have hm := gh_mo hG
  have hZ0 : rI p 13 7 = rI p 66 6 := hZ
  have hn : hP ro n d (11, 1, 1, 1, k157) 0 (lv_args 0 [.ref 0]) [] p (fun _ p1 => rI p1 66 6 = rI p 66 6 ∧ rI p1 67 22 = rI p 67 22) := by
    refine X_turn hb.1 hb.2 hm.1 (by omega) ?_
    intro pA z p1 oA hz e1 wpA
    rw [e1]
    exact ⟨by rw [rI_o (by decide)]; exact oA.int (by decide), by rw [rI_o (by decide)]; exact oA.int (by decide)⟩
  refine hp_imp (hp_and (t_turn (m := m) (d' := d') hG hZ hcr) (hp_and (x_turn_mo hG hmo) hn)) (fun v1 p1 _ h => ?_)
  have f22 : rI p1 67 22 = rI p 13 9 := by rw [h.2.2.2, hcr.2.2.2.2.1]
  exact hp_imp (hp_and h.1 (m_turn_mo (by rw [h.2.2.1, ← hZ0]; exact hb.1) (by rw [h.2.2.1, ← hZ0]; exact hb.2) (by rw [f22]; exact hm.1) (by rw [f22]; omega) h.2.1)) (fun v2 p2 _ k => ⟨k.1.1, k.1.2.1, k.1.2.2, k.2⟩)
