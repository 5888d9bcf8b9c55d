/-! the relation of the told days, of the errands -/
abbrev F_dy : List (Nat × Nat) := [(3, 9999), (88, 9999)]
def C_dy (p : xH) : Prop := ∀ k, rV p 3 k = rV p 88 k
theorem C_dy_fr {p p1 : xH} (h : hSm F_dy p p1) (c : C_dy p) : C_dy p1 := fun k => by rw [h 3 k rfl, h 88 k rfl]; exact c k
abbrev T_go : List (Nat × Nat) := [(3, 9999), (88, 9999)]
theorem t_go0 {ro : List (List Int32)} {p : xH} (hG : GH jGG p) (hZ : C_sz p) (a0 a1 a2 : Int32) {n m d d' : Nat} :
    hP ro n d (11, 6, 1, 1, k149) 0 (lv_args 0 [.ref 0, .int a0, .int a1, .int a2]) [] p (fun v1 p1 => hP ro m d' (12, 5, 1, 1, k236) 0 (lv_args 0 [.ref 66, .int a0, .int a1, .int a2]) [] p1 (fun v2 p2 => v1 = v2 ∧ hNt T_go p p2 ∧ (C_dy p → C_dy p2))) := by
  have hb := gh_sz hG
  have hZ0 : rI p 13 7 = rI p 66 6 := hZ
  refine X_go (xi := a0.toInt) (fi := a1.toInt) (si := a2.toInt) rfl rfl rfl hb.2 ?_ ?_
  · intro h1
    rw [hZ0] at h1
    refine M_go (xi := a0.toInt) (fi := a1.toInt) (si := a2.toInt) rfl rfl rfl (by rw [← hZ0]; exact hb.1) (by rw [← hZ0]; exact hb.2) ?_ ?_
    · intros; exact ⟨rfl, hNt.refl _ _, id⟩
    · intros; exfalso; omega
  · intro z p1 h1 h2 h3 h4 h5 h6 h7 hz o1
    have f66 : rI p1 66 6 = rI p 13 7 := by rw [o1.int (by decide), hZ0]
    refine M_go (xi := a0.toInt) (fi := a1.toInt) (si := a2.toInt) rfl rfl rfl (by rw [f66]; exact hb.1) (by rw [f66]; exact hb.2) ?_ ?_
    · rw [f66]; intros; exfalso; omega
    · rw [f66]
      intro z2 p2 g1 g2 g3 g4 g5 g6 g7 hz2 o2
      refine ⟨by rw [Int32.toInt_inj.mp (hz.trans hz2.symm)], ((hNt.refl _ p).on o1 (fun _ => rfl)).on o2 (fun _ => rfl), fun hC k => ?_⟩
      rw [o2.1 3 k (by decide), o1.2 k, o2.2 k]
      dsimp only
      rw [o1.1 88 k (by decide), hC k]
theorem t_go {ro : List (List Int32)} {p : xH} (hG : GH jGG p) (hZ : C_sz p) (a0 a1 a2 : Int32) {n m d d' : Nat} :
    hP ro n d (11, 6, 1, 1, k149) 0 (lv_args 0 [.ref 0, .int a0, .int a1, .int a2]) [] p (fun v1 p1 => hP ro m d' (12, 5, 1, 1, k236) 0 (lv_args 0 [.ref 66, .int a0, .int a1, .int a2]) [] p1 (fun v2 p2 => v1 = v2 ∧ hNt T_go p p2)) :=
  hp_imp (t_go0 hG hZ a0 a1 a2) (fun _ _ _ h => hp_imp h (fun _ _ _ h2 => ⟨h2.1, h2.2.1⟩))
theorem t_go2 {ro : List (List Int32)} {p : xH} (hG : GH jGG p) (hZ : C_sz p) (hD : C_dy p) (a0 a1 a2 : Int32) {n m d d' : Nat} :
    hP ro n d (11, 6, 1, 1, k149) 0 (lv_args 0 [.ref 0, .int a0, .int a1, .int a2]) [] p (fun v1 p1 => hP ro m d' (12, 5, 1, 1, k236) 0 (lv_args 0 [.ref 66, .int a0, .int a1, .int a2]) [] p1 (fun v2 p2 => v1 = v2 ∧ hNt T_go p p2 ∧ C_dy p2)) :=
  hp_imp (t_go0 hG hZ a0 a1 a2) (fun _ _ _ h => hp_imp h (fun _ _ _ h2 => ⟨h2.1, h2.2.1, h2.2.2 hD⟩))
abbrev F_er : List (Nat × Nat) := [(17, 9999), (18, 9999), (19, 9999), (72, 9999), (73, 9999), (74, 9999)]
def C_er (p : xH) : Prop := (∀ k, rV p 17 k = rV p 72 k) ∧ (∀ k, rV p 18 k = rV p 73 k) ∧ ∀ k, rV p 19 k = rV p 74 k
theorem C_er_fr {p p1 : xH} (h : hSm F_er p p1) (c : C_er p) : C_er p1 := ⟨fun k => by rw [h 17 k rfl, h 72 k rfl]; exact c.1 k, fun k => by rw [h 18 k rfl, h 73 k rfl]; exact c.2.1 k, fun k => by rw [h 19 k rfl, h 74 k rfl]; exact c.2.2 k⟩
theorem gh_17 {p : xH} (h : GH jGG p) (k : Nat) : 0 ≤ (rI p 17 k).toInt ∧ (rI p 17 k).toInt ≤ 4 := gh_any h (r := 17) rfl (by decide) (by decide) k
abbrev T_err : List (Nat × Nat) := [(17, 9999), (18, 9999), (19, 9999), (72, 9999), (73, 9999), (74, 9999)]
theorem t_errand {ro : List (List Int32)} {p : xH} (hG : GH jGG p) (hZ : C_sz p) (hE : C_er p) (a0 a1 : Int32) {n m d d' : Nat} :
    hP ro n d (11, 5, 1, 1, k128) 0 (lv_args 0 [.ref 0, .int a0, .int a1]) [] p (fun v1 p1 => hP ro m d' (12, 3, 1, 1, k187) 0 (lv_args 0 [.ref 66, .int a0, .int a1]) [] p1 (fun v2 p2 => v1 = v2 ∧ hNt T_err p p2 ∧ C_er p2)) := by
  have hw := hW_of hG
  have hb := gh_sz hG
  have hZ0 : rI p 13 7 = rI p 66 6 := hZ
  obtain ⟨r1, r2, r3⟩ := hE
  have b17 := gh_17 hG a0.toInt.toNat
  have e17 : ∀ k, rI p 17 k = rI p 72 k := rI_row r1
  have b72 : 0 ≤ (rI p 72 a0.toInt.toNat).toInt ∧ (rI p 72 a0.toInt.toNat).toInt ≤ 4 := by rw [← e17]; exact b17
  refine X_errand (xi := a0.toInt) (fi := a1.toInt) rfl rfl hb.2 b17.1 ?_ ?_ ?_
  · intro h1
    rw [hZ0] at h1
    refine M_errand (xi := a0.toInt) (fi := a1.toInt) rfl rfl (by rw [← hZ0]; exact hb.1) (by rw [← hZ0]; exact hb.2) b72.1 b72.2 ?_ ?_ ?_
    · intros; exact ⟨rfl, hNt.refl _ _, r1, r2, r3⟩
    · intros; exfalso; omega
    · intros; exfalso; omega
  · intro h1 h2 h3 h4 h5 h6 h7
    rw [hZ0] at h2
    rw [e17] at h7
    refine M_errand (xi := a0.toInt) (fi := a1.toInt) rfl rfl (by rw [← hZ0]; exact hb.1) (by rw [← hZ0]; exact hb.2) b72.1 b72.2 ?_ ?_ ?_
    · intros; exfalso; omega
    · intros; exact ⟨rfl, hNt.refl _ _, r1, r2, r3⟩
    · intros; exfalso; omega
  · intro z p1 e1 h1 h2 h3 h4 h5 h6 h7 hz
    have f66 : rI p1 66 6 = rI p 13 7 := by rw [e1, rI_o (by decide), rI_o (by decide), rI_o (by decide), hZ0]
    have f72 : ∀ k, rI p1 72 k = rI p 17 k := fun k => by rw [e1, rI_o (by decide), rI_o (by decide), rI_o (by decide), e17]
    refine M_errand (xi := a0.toInt) (fi := a1.toInt) rfl rfl (by rw [f66]; exact hb.1) (by rw [f66]; exact hb.2) (by rw [f72]; exact b17.1) (by rw [f72]; exact b17.2) ?_ ?_ ?_
    · rw [f66]; intros; exfalso; omega
    · rw [f72]; intros; exfalso; omega
    · rw [f72]
      intro z2 p2 e2 g1 g2 g3 g4 g5 g6 g7 hz2
      have i1 : (4 * a0.toInt + (rI p 17 a0.toInt.toNat).toInt).toNat < 28 := by omega
      have i2 : a0.toInt.toNat < 7 := by omega
      have w1 : hW (wV p 18 (4 * a0.toInt + (rI p 17 a0.toInt.toNat).toInt).toNat (.int (a1 / 10))) := hW_wV hw rfl
      have w2 : hW (wV (wV p 18 (4 * a0.toInt + (rI p 17 a0.toInt.toNat).toInt).toNat (.int (a1 / 10))) 19 (4 * a0.toInt + (rI p 17 a0.toInt.toNat).toInt).toNat (.int (a1 - a1 / 10 * 10))) := hW_wV w1 rfl
      have wp1 : hW p1 := by rw [e1]; exact hW_wV w2 rfl
      have v1 : hW (wV p1 73 (4 * a0.toInt + (rI p 17 a0.toInt.toNat).toInt).toNat (.int (a1 / 10))) := hW_wV wp1 rfl
      have v2 : hW (wV (wV p1 73 (4 * a0.toInt + (rI p 17 a0.toInt.toNat).toInt).toNat (.int (a1 / 10))) 74 (4 * a0.toInt + (rI p 17 a0.toInt.toNat).toInt).toNat (.int (a1 - a1 / 10 * 10))) := hW_wV v1 rfl
      refine ⟨by rw [Int32.toInt_inj.mp (hz.trans hz2.symm)], by rw [e2, e1]; exact ((((((hNt.refl _ _).w rfl).w rfl).w rfl).w rfl).w rfl).w rfl, fun k => ?_, fun k => ?_, fun k => ?_⟩
      · rw [e2, rV_ne (fun z => absurd z (by decide)), rV_ne (fun z => absurd z (by decide)), rV_ne (fun z => absurd z (by decide)), rV_w v2 i2, rV_ne (fun z => absurd z (by decide)), rV_ne (fun z => absurd z (by decide)), e1, rV_w w2 i2, rV_ne (fun z => absurd z (by decide)), rV_ne (fun z => absurd z (by decide)), rV_ne (fun z => absurd z (by decide)), rV_ne (fun z => absurd z (by decide)), rV_ne (fun z => absurd z (by decide)), r1 k]
      · rw [e2, rV_ne (fun z => absurd z (by decide)), rV_ne (fun z => absurd z (by decide)), rV_ne (fun z => absurd z (by decide)), rV_ne (fun z => absurd z (by decide)), rV_ne (fun z => absurd z (by decide)), rV_w wp1 i1, e1, rV_ne (fun z => absurd z (by decide)), rV_ne (fun z => absurd z (by decide)), rV_w hw i1, rV_ne (fun z => absurd z (by decide)), rV_ne (fun z => absurd z (by decide)), rV_ne (fun z => absurd z (by decide)), r2 k]
      · rw [e2, rV_ne (fun z => absurd z (by decide)), rV_ne (fun z => absurd z (by decide)), rV_ne (fun z => absurd z (by decide)), rV_ne (fun z => absurd z (by decide)), rV_w v1 i1, rV_ne (fun z => absurd z (by decide)), e1, rV_ne (fun z => absurd z (by decide)), rV_w w1 i1, rV_ne (fun z => absurd z (by decide)), rV_ne (fun z => absurd z (by decide)), rV_ne (fun z => absurd z (by decide)), rV_ne (fun z => absurd z (by decide)), r3 k]
theorem t_clear {ro : List (List Int32)} {p : xH} (hG : GH jGG p) (hZ : C_sz p) (hE : C_er p) (a0 : Int32) {n m d d' : Nat} :
    hP ro n d (11, 2, 1, 1, k129) 0 (lv_args 0 [.ref 0, .int a0]) [] p (fun v1 p1 => hP ro m d' (12, 3, 1, 1, k188) 0 (lv_args 0 [.ref 66, .int a0]) [] p1 (fun v2 p2 => v1 = v2 ∧ hNt T_err p p2 ∧ C_er p2)) := by
  have hw := hW_of hG
  have hb := gh_sz hG
  have hZ0 : rI p 13 7 = rI p 66 6 := hZ
  obtain ⟨r1, r2, r3⟩ := hE
  refine X_clear (xi := a0.toInt) rfl ?_ ?_
  · intro h1
    rw [hZ0] at h1
    refine M_clear (xi := a0.toInt) rfl (by rw [← hZ0]; exact hb.1) ?_ ?_
    · intros; exact ⟨rfl, hNt.refl _ _, r1, r2, r3⟩
    · intros; exfalso; omega
  · intro p1 e1 h1 h2
    have f66 : rI p1 66 6 = rI p 13 7 := by rw [e1, rI_o (by decide), hZ0]
    have f72 : ∀ k, rI p1 72 k = rI p 17 k := fun k => by rw [e1, rI_o (by decide), rI_row r1]
    refine M_clear (xi := a0.toInt) rfl (by rw [f66]; exact hb.1) ?_ ?_
    · rw [f66]; intros; exfalso; omega
    · intro p2 e2 g1 g2
      refine ⟨by rw [f72], by rw [e2, e1]; exact ((hNt.refl _ _).w rfl).w rfl, ?_, fun k => ?_, fun k => ?_⟩
      · rw [e2, e1]
        exact rV_set hw rfl (by decide) (show _ < 7 by omega) (show _ < 7 by omega) r1
      · rw [e2, rV_ne (fun z => absurd z (by decide)), rV_ne (fun z => absurd z (by decide)), e1, rV_ne (fun z => absurd z (by decide)), rV_ne (fun z => absurd z (by decide)), r2 k]
      · rw [e2, rV_ne (fun z => absurd z (by decide)), rV_ne (fun z => absurd z (by decide)), e1, rV_ne (fun z => absurd z (by decide)), rV_ne (fun z => absurd z (by decide)), r3 k]
