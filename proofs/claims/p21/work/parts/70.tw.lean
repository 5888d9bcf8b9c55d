/-! the relation of the twins: how many, of which kinds -/
abbrev F_tw : List (Nat × Nat) := [(57, 1), (66, 44), (58, 9999), (95, 9999)]
def C_tw (p : xH) : Prop := rI p 57 1 = rI p 66 44 ∧ ∀ k, rV p 58 k = rV p 95 k
theorem C_tw_fr {p p1 : xH} (h : hSm F_tw p p1) (c : C_tw p) : C_tw p1 :=
  ⟨by rw [h.int (r := 57) (k := 1) rfl, h.int (r := 66) (k := 44) rfl]; exact c.1, fun k => by rw [h 58 k rfl, h 95 k rfl]; exact c.2 k⟩
theorem gh_bodies {p : xH} (h : GH jGG p) : 0 ≤ (rI p 66 44).toInt ∧ (rI p 66 44).toInt ≤ 50 := gh_fld h (r := 66) (k := 44) rfl rfl
abbrev T_body : List (Nat × Nat) := [(58, 9999), (57, 1), (95, 9999), (66, 44)]
theorem t_body0 {ro : List (List Int32)} {p : xH} (hG : GH jGG p) (hR : C_tw p) (a0 : Int32) {n m d d' : Nat} :
    hP ro n d (11, 2, 1, 1, k162) 0 (lv_args 0 [.ref 0, .int a0]) [] p (fun v1 p1 => hP ro m d' (12, 2, 1, 1, k254) 0 (lv_args 0 [.ref 66, .int a0]) [] p1 (fun v2 p2 => v1 = v2 ∧ hNt T_body p p2 ∧ C_tw p2 ∧ (rI p 57 1).toInt ≤ (rI p2 57 1).toInt)) := by
  obtain ⟨hc, hr⟩ := hR
  have hw := hW_of hG
  have hb := gh_bodies hG
  refine X_body (xi := a0.toInt) rfl ?_ ?_ ?_
  · intro h1
    refine M_body (xi := a0.toInt) rfl ?_ ?_ ?_
    · intro h2; exact ⟨rfl, hNt.refl _ _, ⟨hc, hr⟩, Int.le_refl _⟩
    · intro h2 h3 h4; exfalso; omega
    · intro z p2 e h2 h3 h4 h5 h6; exfalso; omega
  · intro h1 h1b h1c
    rw [hc] at h1c
    refine M_body (xi := a0.toInt) rfl ?_ ?_ ?_
    · intro h2; exfalso; omega
    · intro h2 h3 h4; exact ⟨rfl, hNt.refl _ _, ⟨hc, hr⟩, Int.le_refl _⟩
    · intro z p2 e h2 h3 h4 h5 h6; exfalso; omega
  · intro z p1 e1 g1 g2 g3 g4 g5
    have f1 : rI p1 66 44 = rI p 66 44 := by rw [e1, rI_o (by decide), rI_o (by decide)]
    refine M_body (xi := a0.toInt) rfl ?_ ?_ ?_
    · intro h2; exfalso; omega
    · intro h2 h3 h4; rw [f1, ← hc] at h4; exfalso; omega
    · intro z2 p2 e2 h2 h3 h4 h5 h6
      rw [f1, ← hc] at e2 h4 h5 h6
      have w1 : hW (wV p 58 (rI p 57 1).toInt.toNat (.int a0)) := hW_wV hw rfl
      have w2 : hW p1 := by rw [e1]; exact hW_wV w1 rfl
      have w3 : hW (wV p1 95 (rI p 57 1).toInt.toNat (.int a0)) := hW_wV w2 rfl
      refine ⟨by rw [Int32.toInt_inj.mp (g5.trans h6.symm)], by rw [e2, e1]; exact ((((hNt.refl _ _).w rfl).w rfl).w rfl).w rfl, ⟨?_, fun k => ?_⟩, ?_⟩
      · rw [e2, rI_o (by decide), rI_o (by decide), rI_eq w3 (by decide), e1, rI_eq w1 (by decide)]
      · have i1 : (rI p 57 1).toInt.toNat < 50 := by omega
        rw [e2, rV_ne (fun e => absurd e (by decide)), rV_ne (r' := 95) (r := 66) (fun e => absurd e (by decide))]
        by_cases hk : k = (rI p 57 1).toInt.toNat
        · subst hk
          rw [rV_ne (fun e => absurd e (by decide)), rV_eq w2 i1, e1, rV_ne (fun e => absurd e (by decide)), rV_eq hw i1]
        · rw [rV_ne (fun _ => by first | exact hk | decide), rV_ne (r' := 95) (r := 95) (fun _ => hk), e1, rV_ne (fun e => absurd e (by decide)), rV_ne (r' := 58) (r := 58) (fun _ => hk), rV_ne (fun e => absurd e (by decide)), rV_ne (fun e => absurd e (by decide))]
          exact hr k
      · have q : rI p2 57 1 = rI p 57 1 + 1 := by rw [e2, rI_o (by decide), rI_o (by decide), e1, rI_eq w1 (by decide)]
        have := i_add q rfl (show (1 : Int32).toInt = 1 from by decide)
        omega
theorem t_body {ro : List (List Int32)} {p : xH} (hG : GH jGG p) (hR : C_tw p) (a0 : Int32) {n m d d' : Nat} :
    hP ro n d (11, 2, 1, 1, k162) 0 (lv_args 0 [.ref 0, .int a0]) [] p (fun v1 p1 => hP ro m d' (12, 2, 1, 1, k254) 0 (lv_args 0 [.ref 66, .int a0]) [] p1 (fun v2 p2 => v1 = v2 ∧ hNt T_body p p2 ∧ C_tw p2)) :=
  hp_imp (t_body0 hG hR a0) (fun r1 p1 _ h => hp_imp h (fun r2 p2 _ h2 => ⟨h2.1, h2.2.1, h2.2.2.1⟩))
abbrev T_keep : List (Nat × Nat) := [(61, 9999), (62, 9999), (97, 9999), (98, 9999)]
/-- what keep answers, of both -/
theorem t_keep {ro : List (List Int32)} {p : xH} (hG : GH jGG p) (hR : C_tw p) (a0 a1 : Int32) {n m d d' : Nat} :
    hP ro n d (11, 3, 1, 1, k165) 0 (lv_args 0 [.ref 0, .int a0, .int a1]) [] p (fun v1 p1 => hP ro m d' (12, 3, 1, 1, k264) 0 (lv_args 0 [.ref 66, .int a0, .int a1]) [] p1 (fun v2 p2 => v1 = v2 ∧ hNt T_keep p p2)) := by
  obtain ⟨hc, hr⟩ := hR
  have hw := hW_of hG
  have hb := gh_bodies hG
  refine X_keep (xi := a0.toInt) (yi := a1.toInt) rfl rfl ?_ ?_ ?_
  · intro h1
    rw [hc] at h1
    refine M_keep (xi := a0.toInt) (yi := a1.toInt) rfl rfl hb.1 ?_ ?_
    · intro h2; exact ⟨rfl, hNt.refl _ _⟩
    · intro p2 e h2 h3 h4; exfalso; omega
  · intro p1 e1 h1 h2 h3
    have f1 : rI p1 66 44 = rI p 66 44 := by rw [e1, rI_o (by decide), rI_o (by decide)]
    refine M_keep (xi := a0.toInt) (yi := a1.toInt) rfl rfl (by rw [f1]; exact hb.1) ?_ ?_
    · intro h4; rw [f1] at h4; exfalso; omega
    · intro p2 e h4 h5 h6; exact ⟨rfl, by rw [e, e1]; exact ((((hNt.refl _ _).w rfl).w rfl).w rfl).w rfl⟩
  · intro p1 e1 h1 h2 h3 h3b
    rw [hc] at h3b
    have f1 : rI p1 66 44 = rI p 66 44 := by rw [e1, rI_o (by decide), rI_o (by decide)]
    refine M_keep (xi := a0.toInt) (yi := a1.toInt) rfl rfl (by rw [f1]; exact hb.1) ?_ ?_
    · intro h4; rw [f1] at h4; exfalso; omega
    · intro p2 e h4 h5 h6; exact ⟨rfl, by rw [e, e1]; exact ((((hNt.refl _ _).w rfl).w rfl).w rfl).w rfl⟩
