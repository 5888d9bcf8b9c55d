/-! the tape and the law, of both -/
abbrev F_tp : List (Nat × Nat) := [(25, 2), (31, 9999), (66, 12), (75, 9999)]
def C_tp (p : xH) : Prop := rI p 25 2 = rI p 66 12 ∧ ∀ j, rV p 31 j = rV p 75 j
theorem C_tp_fr {p p1 : xH} (h : hSm F_tp p p1) (c : C_tp p) : C_tp p1 :=
  ⟨by rw [h.int (r := 25) (k := 2) rfl, h.int (r := 66) (k := 12) rfl]; exact c.1, fun j => by rw [h 31 j rfl, h 75 j rfl]; exact c.2 j⟩
abbrev F_lw : List (Nat × Nat) := [(20, 2), (21, 9999), (22, 9999), (66, 14), (76, 9999)]
def C_lw (p : xH) : Prop := ∃ lo, lXo p lo ∧ lMo p lo
theorem lXo_sm {p p2 : xH} {lo : Option (List yN)} (n : hSm F_lw p p2) (h : lXo p lo) : lXo p2 lo := by
  cases lo with
  | none => show (rI p2 20 2).toInt = 0; rw [n.int (r := 20) (k := 2) rfl]; exact h
  | some ls =>
    obtain ⟨a1, a2, a3, a4, a5⟩ := h
    exact ⟨a1, a2, by rw [n.int (r := 20) (k := 2) rfl]; exact a3, hCd_same a4 (fun j _ _ => ⟨n 21 j rfl, n 22 j rfl⟩), a5⟩
theorem lMo_sm {p p2 : xH} {lo : Option (List yN)} (n : hSm F_lw p p2) (h : lMo p lo) : lMo p2 lo := by
  cases lo with
  | none => show (rI p2 66 14).toInt = -1; rw [n.int (r := 66) (k := 14) rfl]; exact h
  | some ls =>
    obtain ⟨a1, a2, a3⟩ := h
    have e : gM p2 0 (rI p 66 14).toInt = gM p 0 (rI p 66 14).toInt := by
      funext j
      unfold gM
      have z : ¬ ((0 : Int) < 0) := by decide
      rw [if_neg z, if_neg z, n.int (r := 76) rfl]
    show 0 ≤ (rI p2 66 14).toInt ∧ (rI p2 66 14).toInt ≤ 120 ∧ yT (gM p2 0 (rI p2 66 14).toInt) 0 [] (some ls, (rI p2 66 14).toInt.toNat)
    rw [n.int (r := 66) (k := 14) rfl, e]
    exact ⟨a1, a2, a3⟩
theorem C_lw_fr {p p1 : xH} (h : hSm F_lw p p1) (c : C_lw p) : C_lw p1 := by
  obtain ⟨lo, a, b⟩ := c
  exact ⟨lo, lXo_sm h a, lMo_sm h b⟩
theorem gh_tl {p : xH} (h : GH jGG p) : 0 ≤ (rI p 25 2).toInt ∧ (rI p 25 2).toInt ≤ 120 := gh_fld h (r := 25) (k := 2) rfl rfl
abbrev T_feed : List (Nat × Nat) := [(31, 9999), (25, 2), (75, 9999), (66, 12)]
theorem t_feed {ro : List (List Int32)} {p : xH} (hG : GH jGG p) (hT : C_tp p) (a0 : Int32) {n m d d' : Nat} :
    hP ro n d (11, 2, 1, 1, k136) 0 (lv_args 0 [.ref 0, .int a0]) [] p (fun v1 p1 => hP ro m d' (12, 2, 1, 1, k196) 0 (lv_args 0 [.ref 66, .int a0]) [] p1 (fun v2 p2 => v1 = v2 ∧ hNt T_feed p p2 ∧ C_tp p2)) := by
  have hw := hW_of hG
  have hb := gh_tl hG
  obtain ⟨c1, c2⟩ := hT
  refine X_feed (xi := a0.toInt) rfl ?_ ?_ ?_
  · intro h1
    refine M_feed (xi := a0.toInt) rfl (by rw [← c1]; exact hb.2) ?_ ?_ ?_
    · intro h2; exact ⟨rfl, hNt.refl _ _, c1, c2⟩
    · intros; exfalso; omega
    · intros; exfalso; omega
  · intro h1 h1b h1c
    rw [c1] at h1c
    refine M_feed (xi := a0.toInt) rfl (by rw [← c1]; exact hb.2) ?_ ?_ ?_
    · intros; exfalso; omega
    · intro h2 h3 h4; exact ⟨rfl, hNt.refl _ _, c1, c2⟩
    · intros; exfalso; omega
  · intro z p1 e1 h1 h2 h3 hz
    have f12 : rI p1 66 12 = rI p 25 2 := by rw [e1, rI_o (by decide), rI_o (by decide), c1]
    refine M_feed (xi := a0.toInt) rfl (by rw [f12]; exact hb.2) ?_ ?_ ?_
    · intros; exfalso; omega
    · rw [f12]; intros; exfalso; omega
    · rw [f12]
      intro z2 p2 e2 h4 h5 h6 hz2
      have w1 : hW (wV p 31 (rI p 25 2).toInt.toNat (.int a0)) := hW_wV hw rfl
      have w2 : hW p1 := by rw [e1]; exact hW_wV w1 rfl
      have w3 : hW (wV p1 75 (rI p 25 2).toInt.toNat (.int a0)) := hW_wV w2 rfl
      have i1 : (rI p 25 2).toInt.toNat < 120 := by omega
      refine ⟨by rw [hz, hz2], by rw [e2, e1]; exact ((((hNt.refl _ _).w rfl).w rfl).w rfl).w rfl, ?_, fun j => ?_⟩
      · rw [e2, rI_o (by decide), rI_o (by decide), rI_eq w3 (by decide), e1, rI_eq w1 (by decide)]
      · rw [e2, rV_ne (fun e => absurd e (by decide)), rV_ne (fun e => absurd e (by decide)), rV_ne (r' := 75) (r := 66) (fun e => absurd e (by decide)), rV_w w2 i1, e1, rV_ne (fun e => absurd e (by decide)), rV_w hw i1, rV_ne (fun e => absurd e (by decide)), rV_ne (fun e => absurd e (by decide)), c2 j]
abbrev T_law : List (Nat × Nat) := [(25, 3), (26, 2), (27, 9999), (28, 9999), (20, 2), (21, 9999), (22, 9999), (25, 2), (66, 15), (66, 16), (66, 17), (66, 18), (66, 19), (66, 12), (66, 14), (76, 9999)]
theorem tape_same {T : List (Nat × Nat)} {p p1 : xH} (hT : C_tp p) (n1 : hNt T p p1) (h12 : hF T 66 12 = false) (h75 : ∀ j, hF T 75 j = false) : gM p1 (-1) (rI p1 66 12).toInt = fX p ∧ (rI p1 66 12).toInt = (rI p 25 2).toInt := by
  have e : (rI p1 66 12).toInt = (rI p 25 2).toInt := by rw [n1.int h12, hT.1]
  refine ⟨?_, e⟩
  rw [e]
  funext j
  unfold gM fX
  rw [if_pos (show (-1 : Int) < 0 by decide), n1.int (h75 j), rI_same (hT.2 j)]
theorem t_law {ro : List (List Int32)} {p : xH} (hG : GH jGG p) (hT : C_tp p) {n m d d' : Nat} :
    hP ro n d (11, 3, 1, 1, k137) 0 (lv_args 0 [.ref 0]) [] p (fun v1 p1 => hP ro m d' (12, 4, 1, 1, k208) 0 (lv_args 0 [.ref 66]) [] p1 (fun v2 p2 => v1 = v2 ∧ hNt T_law p p2 ∧ C_tp p2 ∧ (C_lw p → C_lw p2))) := by
  have hb := gh_tl hG
  refine X_law hb.1 hb.2 ?_ ?_
  · intro ac p1 n1 a1 a2 a3 a4 a5 a6 a7
    obtain ⟨e1, e2⟩ := tape_same hT n1 rfl (fun _ => rfl)
    refine M_law (by rw [e2]; exact hb.1) (by rw [e2]; exact hb.2) ?_ ?_
    · intro ac2 p2 n2 b1 b2 b3 b4
      rw [e1, e2] at b1
      have q := yT_det a1 b1
      have q1 : some ac = some ac2 := congrArg Prod.fst q
      cases q1
      rw [e2] at b3 b4
      refine ⟨rfl, (n1.up (by decide)).trans (n2.up (by decide)), ⟨?_, fun j => ?_⟩, fun _ => ⟨some ac, ?_, ?_⟩⟩
      · apply Int32.toInt_inj.mp
        rw [n2.int (r := 25) (k := 2) rfl, a2, b2]
      · rw [n2 31 j rfl, n1 31 j rfl, n2 75 j rfl, n1 75 j rfl]
        exact hT.2 j
      · exact ⟨a5, a6, by rw [n2.int (r := 20) (k := 2) rfl]; exact a3, hCd_same a4 (fun j _ _ => ⟨n2 21 j rfl, n2 22 j rfl⟩), a7⟩
      · have hg : gM p2 0 (rI p 25 2).toInt = fX p := by
          funext j
          unfold gM fX
          rw [if_neg (show ¬ (0 : Int) < 0 by decide)]
          by_cases hj : (j : Int) < (rI p 25 2).toInt
          · rw [if_pos hj, if_pos hj, rI_same (b4 j hj), n1.int (r := 75) rfl, rI_same (hT.2 j)]
          · rw [if_neg hj, if_neg hj]
        show 0 ≤ (rI p2 66 14).toInt ∧ (rI p2 66 14).toInt ≤ 120 ∧ yT (gM p2 0 (rI p2 66 14).toInt) 0 [] (some ac, (rI p2 66 14).toInt.toNat)
        rw [b3, hg]
        exact ⟨hb.1, hb.2, a1⟩
    · intro r b z p2 n2 b1 b2 b3 b4
      exfalso
      rw [e1] at b1
      rw [e2] at b2
      have q := yT_det a1 b1
      have q1 : some ac = r := congrArg Prod.fst q
      have q2 : (rI p 25 2).toInt.toNat = b := congrArg Prod.snd q
      rcases b2 with b2 | b2
      · rw [b2] at q1; cases q1
      · omega
  · intro r b z p1 n1 a1 a2 a3 a4
    obtain ⟨e1, e2⟩ := tape_same hT n1 rfl (fun _ => rfl)
    refine M_law (by rw [e2]; exact hb.1) (by rw [e2]; exact hb.2) ?_ ?_
    · intro ac2 p2 n2 b1 b2 b3 b4
      exfalso
      rw [e1, e2] at b1
      have q := yT_det a1 b1
      have q1 : r = some ac2 := congrArg Prod.fst q
      have q2 : b = (rI p 25 2).toInt.toNat := congrArg Prod.snd q
      rcases a2 with a2 | a2
      · rw [a2] at q1; cases q1
      · omega
    · intro r2 b' z2 p2 n2 b1 b2 b3 b4
      rw [e1] at b1
      have q := yT_det a1 b1
      have q2 : b = b' := congrArg Prod.snd q
      obtain ⟨u, u1, u2⟩ := a4
      obtain ⟨w, w1, w2⟩ := b4
      have eu : u = w := Int32.toInt_inj.mp (by omega)
      refine ⟨by rw [u2, w2, eu], (n1.up (by decide)).trans (n2.up (by decide)), ⟨?_, fun j => ?_⟩, fun hl => ?_⟩
      · apply Int32.toInt_inj.mp
        rw [n2.int (r := 25) (k := 2) rfl, a3, b3]
      · rw [n2 31 j rfl, n1 31 j rfl, n2 75 j rfl, n1 75 j rfl]
        exact hT.2 j
      · exact C_lw_fr (n2.sm (by decide)) (C_lw_fr (n1.sm (by decide)) hl)
