/-! the relation of the people: how many; what is said of each -/
abbrev F_sz : List (Nat × Nat) := [(13, 7), (66, 6)]
def C_sz (p : xH) : Prop := rI p 13 7 = rI p 66 6
theorem C_sz_fr {p p1 : xH} (h : hSm F_sz p p1) (c : C_sz p) : C_sz p1 := by
  unfold C_sz
  rw [h.int (r := 13) (k := 7) rfl, h.int (r := 66) (k := 6) rfl]
  exact c
abbrev F_cr : List (Nat × Nat) := [(13, 7), (13, 8), (13, 9), (14, 9999), (15, 9999), (16, 9999), (67, 9999)]
def C_cr (p : xH) : Prop := (∀ j, j < 7 → rV p 14 j = rV p 67 j) ∧ (∀ j, j < 7 → rV p 15 j = rV p 67 (7 + j)) ∧ (∀ j, j < 7 → rV p 16 j = rV p 67 (14 + j)) ∧ rI p 13 8 = rI p 67 21 ∧ rI p 13 9 = rI p 67 22 ∧ ∀ j, (rI p 13 7).toInt.toNat ≤ j → j < 7 → rV p 16 j = .int 0
theorem C_cr_fr {p p1 : xH} (h : hSm F_cr p p1) (c : C_cr p) : C_cr p1 := by
  obtain ⟨c1, c2, c3, c4, c5, c6⟩ := c
  refine ⟨fun j hj => ?_, fun j hj => ?_, fun j hj => ?_, ?_, ?_, fun j hj hj2 => ?_⟩
  · rw [h 14 j rfl, h 67 j rfl]; exact c1 j hj
  · rw [h 15 j rfl, h 67 _ rfl]; exact c2 j hj
  · rw [h 16 j rfl, h 67 _ rfl]; exact c3 j hj
  · rw [h.int (r := 13) (k := 8) rfl, h.int (r := 67) rfl]; exact c4
  · rw [h.int (r := 13) (k := 9) rfl, h.int (r := 67) rfl]; exact c5
  · rw [h 16 j rfl]
    rw [h.int (r := 13) (k := 7) rfl] at hj
    exact c6 j hj hj2
theorem gh_sz {p : xH} (h : GH jGG p) : 0 ≤ (rI p 13 7).toInt ∧ (rI p 13 7).toInt ≤ 7 := gh_fld h (r := 13) (k := 7) rfl rfl
abbrev T_pers : List (Nat × Nat) := [(14, 9999), (15, 9999), (13, 7), (67, 9999), (66, 6)]
/-- c more have come, to both -/
theorem C_cr_s {p p1 p2 : xH} {S c : Nat} {f g : Nat → Value} (hS : (rI p 13 7).toInt = S) (hc : S + c ≤ 7) (h : C_cr p) (n1 : hNt T_px p p1) (n2 : hNt T_pm p1 p2) (a1 : (rI p1 13 7).toInt = S + c) (a2 : ∀ j, rV p1 14 j = if S ≤ j ∧ j < S + c then f j else rV p 14 j) (a3 : ∀ j, rV p1 15 j = if S ≤ j ∧ j < S + c then g j else rV p 15 j)
    (b2 : ∀ j, j < 7 → rV p2 67 j = if S ≤ j ∧ j < S + c then f j else rV p1 67 j) (b3 : ∀ j, j < 7 → rV p2 67 (7 + j) = if S ≤ j ∧ j < S + c then g j else rV p1 67 (7 + j)) (b4 : ∀ j, j < 7 → rV p2 67 (14 + j) = if S ≤ j ∧ j < S + c then .int 0 else rV p1 67 (14 + j)) (b5 : ∀ j, 21 ≤ j → rV p2 67 j = rV p1 67 j) : C_cr p2 := by
  obtain ⟨c1, c2, c3, c4, c5, c6⟩ := h
  have e67 : ∀ j, rV p1 67 j = rV p 67 j := fun j => n1 67 j rfl
  refine ⟨fun j hj => ?_, fun j hj => ?_, fun j hj => ?_, ?_, ?_, fun j hj hj2 => ?_⟩
  · rw [n2 14 j rfl, a2, b2 j hj, e67, c1 j hj]
  · rw [n2 15 j rfl, a3, b3 j hj, e67, c2 j hj]
  · rw [n2 16 j rfl, n1 16 j rfl, b4 j hj, e67, ← c3 j hj]
    by_cases z : S ≤ j ∧ j < S + c
    · rw [if_pos z]; exact c6 j (by omega) hj
    · rw [if_neg z]
  · rw [n2.int (r := 13) (k := 8) rfl, n1.int (r := 13) (k := 8) rfl, c4]
    unfold rI; rw [b5 21 (by decide), e67]
  · rw [n2.int (r := 13) (k := 9) rfl, n1.int (r := 13) (k := 9) rfl, c5]
    unfold rI; rw [b5 22 (by decide), e67]
  · rw [n2 16 j rfl, n1 16 j rfl]
    rw [n2.int (r := 13) (k := 7) rfl] at hj
    exact c6 j (by omega) hj2
theorem t_person0 {ro : List (List Int32)} {p : xH} (hG : GH jGG p) (hZ : C_sz p) (a0 a1 : Int32) {n m d d' : Nat} :
    hP ro n d (11, 3, 1, 1, k125) 0 (lv_args 0 [.ref 0, .int a0, .int a1]) [] p (fun v1 p1 => hP ro m d' (12, 3, 1, 1, k185) 0 (lv_args 0 [.ref 66, .int a0, .int a1]) [] p1 (fun v2 p2 => v1 = v2 ∧ hNt T_pers p p2 ∧ C_sz p2 ∧ (C_cr p → C_cr p2) ∧ (rI p 13 7).toInt ≤ (rI p2 13 7).toInt)) := by
  have hw := hW_of hG
  have hb := gh_sz hG
  have hZ0 : rI p 13 7 = rI p 66 6 := hZ
  refine X_person (xi := a0.toInt) (yi := a1.toInt) rfl rfl ?_ ?_ ?_
  · intro h1
    refine M_person (xi := a0.toInt) (yi := a1.toInt) rfl rfl (by rw [← hZ0]; exact hb.1) (by rw [← hZ0]; exact hb.2) ?_ ?_ ?_
    · intros; exact ⟨rfl, hNt.refl _ _, hZ, id, Int.le_refl _⟩
    · intros; exfalso; omega
    · intros; exfalso; omega
  · intro h1 h2 h3 h4 h5
    refine M_person (xi := a0.toInt) (yi := a1.toInt) rfl rfl (by rw [← hZ0]; exact hb.1) (by rw [← hZ0]; exact hb.2) ?_ ?_ ?_
    · intros; exfalso; omega
    · intros; exact ⟨rfl, hNt.refl _ _, hZ, id, Int.le_refl _⟩
    · rw [← hZ0]; intros; exfalso; omega
  · intro z p1 e1 h1 h2 h3 h4 h5 h6 hz
    have f66 : rI p1 66 6 = rI p 13 7 := by rw [e1, rI_o (by decide), rI_o (by decide), rI_o (by decide), hZ0]
    refine M_person (xi := a0.toInt) (yi := a1.toInt) rfl rfl (by rw [f66]; exact hb.1) (by rw [f66]; exact hb.2) ?_ ?_ ?_
    · intros; exfalso; omega
    · rw [f66]; intros; exfalso; omega
    · rw [f66]
      intro z2 p2 e2 g1 g2 g3 g4 g5 g6 hz2
      have i7 : (rI p 13 7).toInt.toNat < 7 := by omega
      have w1 : hW (wV p 14 (rI p 13 7).toInt.toNat (.int a0)) := hW_wV hw rfl
      have w2 : hW (wV (wV p 14 (rI p 13 7).toInt.toNat (.int a0)) 15 (rI p 13 7).toInt.toNat (.int a1)) := hW_wV w1 rfl
      have wp1 : hW p1 := by rw [e1]; exact hW_wV w2 rfl
      have q : rI p1 13 7 = rI p 13 7 + 1 := by rw [e1, rI_eq w2 (by decide)]
      have iq := i_add q rfl (show (1 : Int32).toInt = 1 from by decide)
      have n1 : hNt T_px p p1 := by rw [e1]; exact (((hNt.refl _ _).w rfl).w rfl).w rfl
      have n2 : hNt T_pm p1 p2 := by rw [e2]; exact ((((hNt.refl _ _).w rfl).w rfl).w rfl).w rfl
      have v1 : hW (wV p1 67 (rI p 13 7).toInt.toNat (.int a0)) := hW_wV wp1 rfl
      rw [show (7 + (rI p 13 7).toInt).toNat = 7 + (rI p 13 7).toInt.toNat by omega, show (14 + (rI p 13 7).toInt).toNat = 14 + (rI p 13 7).toInt.toNat by omega] at e2
      have v2 : hW (wV (wV p1 67 (rI p 13 7).toInt.toNat (.int a0)) 67 (7 + (rI p 13 7).toInt.toNat) (.int a1)) := hW_wV v1 rfl
      have v3 : hW (wV (wV (wV p1 67 (rI p 13 7).toInt.toNat (.int a0)) 67 (7 + (rI p 13 7).toInt.toNat) (.int a1)) 67 (14 + (rI p 13 7).toInt.toNat) (.int 0)) := hW_wV v2 rfl
      have r : ∀ j, rV p2 67 j = if j = 14 + (rI p 13 7).toInt.toNat then .int 0 else if j = 7 + (rI p 13 7).toInt.toNat then .int a1 else if j = (rI p 13 7).toInt.toNat then .int a0 else rV p1 67 j := fun j => by
        rw [e2, rV_ne (fun z => absurd z (by decide)), rV_w v2 (by show _ < 23; omega), rV_w v1 (by show _ < 23; omega), rV_w wp1 (by show _ < 23; omega)]
      have f2 : rI p2 13 7 = rI p1 13 7 := n2.int rfl
      refine ⟨by rw [Int32.toInt_inj.mp (hz.trans hz2.symm)], (n1.up (by decide)).trans (n2.up (by decide)), ?_, fun hC => ?_, by rw [f2]; omega⟩
      · show rI p2 13 7 = rI p2 66 6
        rw [f2, q, e2, rI_eq v3 (by decide)]
      · refine C_cr_s (S := (rI p 13 7).toInt.toNat) (c := 1) (f := fun _ => .int a0) (g := fun _ => .int a1) (by omega) (by omega) hC n1 n2 (by omega) (fun j => ?_) (fun j => ?_) (fun j hj => ?_) (fun j hj => ?_) (fun j hj => ?_) (fun j hj => ?_)
        · rw [e1, rV_ne (fun z => absurd z (by decide)), rV_ne (fun z => absurd z (by decide)), rV_w hw i7]
          by_cases z : j = (rI p 13 7).toInt.toNat
          · rw [if_pos z, if_pos (by omega)]
          · rw [if_neg z, if_neg (by omega)]
        · rw [e1, rV_ne (fun z => absurd z (by decide)), rV_w w1 i7, rV_ne (fun z => absurd z (by decide))]
          by_cases z : j = (rI p 13 7).toInt.toNat
          · rw [if_pos z, if_pos (by omega)]
          · rw [if_neg z, if_neg (by omega)]
        · rw [r, if_neg (by omega), if_neg (by omega)]
          by_cases z : j = (rI p 13 7).toInt.toNat
          · rw [if_pos z, if_pos (by omega)]
          · rw [if_neg z, if_neg (by omega)]
        · rw [r, if_neg (by omega)]
          by_cases z : j = (rI p 13 7).toInt.toNat
          · rw [if_pos (by omega), if_pos (by omega)]
          · rw [if_neg (by omega), if_neg (by omega), if_neg (by omega)]
        · rw [r]
          by_cases z : j = (rI p 13 7).toInt.toNat
          · rw [if_pos (by omega), if_pos (by omega)]
          · rw [if_neg (by omega), if_neg (by omega), if_neg (by omega), if_neg (by omega)]
        · rw [r, if_neg (by omega), if_neg (by omega), if_neg (by omega)]
theorem t_person {ro : List (List Int32)} {p : xH} (hG : GH jGG p) (hZ : C_sz p) (a0 a1 : Int32) {n m d d' : Nat} :
    hP ro n d (11, 3, 1, 1, k125) 0 (lv_args 0 [.ref 0, .int a0, .int a1]) [] p (fun v1 p1 => hP ro m d' (12, 3, 1, 1, k185) 0 (lv_args 0 [.ref 66, .int a0, .int a1]) [] p1 (fun v2 p2 => v1 = v2 ∧ hNt T_pers p p2 ∧ C_sz p2)) :=
  hp_imp (t_person0 hG hZ a0 a1) (fun _ _ _ h => hp_imp h (fun _ _ _ h2 => ⟨h2.1, h2.2.1, h2.2.2.1⟩))
theorem t_person2 {ro : List (List Int32)} {p : xH} (hG : GH jGG p) (hZ : C_sz p) (hC : C_cr p) (a0 a1 : Int32) {n m d d' : Nat} :
    hP ro n d (11, 3, 1, 1, k125) 0 (lv_args 0 [.ref 0, .int a0, .int a1]) [] p (fun v1 p1 => hP ro m d' (12, 3, 1, 1, k185) 0 (lv_args 0 [.ref 66, .int a0, .int a1]) [] p1 (fun v2 p2 => v1 = v2 ∧ hNt T_pers p p2 ∧ C_sz p2 ∧ C_cr p2)) :=
  hp_imp (t_person0 hG hZ a0 a1) (fun _ _ _ h => hp_imp h (fun _ _ _ h2 => ⟨h2.1, h2.2.1, h2.2.2.1, h2.2.2.2.1 hC⟩))
theorem hCnt_tr {r r' : Nat} {p p' : xH} {x i s P w : Int} {c : Nat} (h : ∀ a, rJ p r a = rJ p' r' a) (k : hCnt r p x i s P w c) : hCnt r' p' x i s P w c := by
  unfold hCnt hOk at k ⊢
  simp only [h] at k
  exact k
theorem t_people0 {ro : List (List Int32)} {p : xH} (hG : GH jGG p) (hS : C_sh p) (hZ : C_sz p) (a0 a1 a2 : Int32) {n m d d' : Nat} :
    hP ro n d (11, 4, 1, 1, k126) 0 (lv_args 0 [.ref 0, .int a0, .int a1, .int a2]) [] p (fun v1 p1 => hP ro m d' (12, 7, 1, 1, k186) 0 (lv_args 0 [.ref 66, .int a0, .int a1, .int a2]) [] p1 (fun v2 p2 => v1 = v2 ∧ hNt T_pers p p2 ∧ C_sz p2 ∧ (C_cr p → C_cr p2) ∧ (rI p 13 7).toInt ≤ (rI p2 13 7).toInt)) := by
  have hb := gh_sz hG
  have hZ0 : rI p 13 7 = rI p 66 6 := hZ
  have x64 := gh_64 hG a0.toInt.toNat
  have x98 := gh_98 hG a0.toInt.toNat
  have x97 := gh_97 hG a0.toInt.toNat
  have hx : 0 ≤ a0.toInt → a0.toInt < 6 → C_s1 p a0.toInt.toNat := fun h1 h2 => hS.1 _ (by omega)
  unfold C_s1 at hx
  refine X_people (xi := a0.toInt) (ii := a1.toInt) (wi := a2.toInt) rfl rfl rfl x64.1 x64.2 hb.1 ?_ ?_ ?_ ?_ ?_
  · intro h1
    refine M_people (xi := a0.toInt) (ii := a1.toInt) (wi := a2.toInt) rfl rfl rfl x98.1 x98.2 (by rw [← hZ0]; exact hb.1) (by rw [← hZ0]; exact hb.2) ?_ ?_ ?_ ?_
    · intros; exact ⟨rfl, hNt.refl _ _, hZ, id, Int.le_refl _⟩
    all_goals (intros; exfalso; omega)
  · intro h1 h2 h3 h4 h5
    have hx := hx h1 h2
    refine M_people (xi := a0.toInt) (ii := a1.toInt) (wi := a2.toInt) rfl rfl rfl x98.1 x98.2 (by rw [← hZ0]; exact hb.1) (by rw [← hZ0]; exact hb.2) ?_ ?_ ?_ ?_
    · intros; exfalso; omega
    · intros; exfalso; omega
    · intros; exact ⟨rfl, hNt.refl _ _, hZ, id, Int.le_refl _⟩
    · intros; exfalso; omega
  · intro h1 h2 h3 h4 h5 h6
    have hx := hx h1 h2
    refine M_people (xi := a0.toInt) (ii := a1.toInt) (wi := a2.toInt) rfl rfl rfl x98.1 x98.2 (by rw [← hZ0]; exact hb.1) (by rw [← hZ0]; exact hb.2) ?_ ?_ ?_ ?_
    · intros; exfalso; omega
    · intros; exact ⟨rfl, hNt.refl _ _, hZ, id, Int.le_refl _⟩
    all_goals (intros; exfalso; omega)
  · intro h1 h2 h3 h4 h5 h6 h7
    have hx := hx h1 h2
    refine M_people (xi := a0.toInt) (ii := a1.toInt) (wi := a2.toInt) rfl rfl rfl x98.1 x98.2 (by rw [← hZ0]; exact hb.1) (by rw [← hZ0]; exact hb.2) ?_ ?_ ?_ ?_
    · intros; exfalso; omega
    · intros; exfalso; omega
    · intros; exact ⟨rfl, hNt.refl _ _, hZ, id, Int.le_refl _⟩
    · intros; exfalso; omega
  · intro z c p1 h1 h2 h3 h4 h5 h6 h7 hz hc hX
    have hx := hx h1 h2
    obtain ⟨n1, u1, u2, u3⟩ := hX
    have f97 : ∀ j, rI p1 97 j = rI p 97 j := fun j => n1.int rfl
    have f98 : ∀ j, rI p1 98 j = rI p 98 j := fun j => n1.int rfl
    have f66 : rI p1 66 6 = rI p 13 7 := by rw [n1.int (r := 66) (k := 6) rfl, hZ0]
    have hJ : ∀ a, rJ p1 99 a = rJ p 65 a := fun a => by rw [n1.long (r := 99) rfl, rV_J hS.2]
    refine M_people (xi := a0.toInt) (ii := a1.toInt) (wi := a2.toInt) rfl rfl rfl (by rw [f98]; exact x98.1) (by rw [f98]; exact x98.2) (by rw [f66]; exact hb.1) (by rw [f66]; exact hb.2) ?_ ?_ ?_ ?_
    · intros; exfalso; omega
    · rw [f97]; intros; exfalso; omega
    · rw [f97]; intros; exfalso; omega
    · rw [f97, f98, f66]
      intro z2 c2 p2 g1 g2 g3 g4 g5 g6 hz2 hc2 hM
      have hc2 := hCnt_tr (r' := 65) (p' := p) hJ hc2
      rw [show (rI p 98 a0.toInt.toNat).toInt = (rI p 64 a0.toInt.toNat).toInt by omega] at hc2
      have hcc := hCnt_one hc hc2
      subst hcc
      obtain ⟨n2, b1, b2, b3, b4, b5⟩ := hM
      simp only [hJ] at b2 b3
      have hle : (rI p 13 7).toInt.toNat + c ≤ 7 := by
        rcases Nat.eq_zero_or_pos c with z | z
        · omega
        · have := (hc.2.1 (c - 1) (by omega)).2.1
          omega
      have f2 : rI p2 13 7 = rI p1 13 7 := n2.int rfl
      refine ⟨by rw [Int32.toInt_inj.mp (hz.trans hz2.symm)], (n1.up (by decide)).trans (n2.up (by decide)), ?_, fun hC => ?_, by rw [f2]; omega⟩
      · show rI p2 13 7 = rI p2 66 6
        rw [f2]
        exact Int32.toInt_inj.mp (u1.trans b1.symm)
      · exact C_cr_s (S := (rI p 13 7).toInt.toNat) (c := c) (f := fun j => .int (rJ p 65 (60 * a0.toInt.toNat + (a1.toInt.toNat + 2 * (j - (rI p 13 7).toInt.toNat)))).toInt32) (g := fun j => .int (rJ p 65 (60 * a0.toInt.toNat + (a1.toInt.toNat + 2 * (j - (rI p 13 7).toInt.toNat) + 1))).toInt32) (by omega) hle hC n1 n2 u1 u2 u3 b2 b3 b4 b5
theorem t_people {ro : List (List Int32)} {p : xH} (hG : GH jGG p) (hS : C_sh p) (hZ : C_sz p) (a0 a1 a2 : Int32) {n m d d' : Nat} :
    hP ro n d (11, 4, 1, 1, k126) 0 (lv_args 0 [.ref 0, .int a0, .int a1, .int a2]) [] p (fun v1 p1 => hP ro m d' (12, 7, 1, 1, k186) 0 (lv_args 0 [.ref 66, .int a0, .int a1, .int a2]) [] p1 (fun v2 p2 => v1 = v2 ∧ hNt T_pers p p2 ∧ C_sz p2)) :=
  hp_imp (t_people0 hG hS hZ a0 a1 a2) (fun _ _ _ h => hp_imp h (fun _ _ _ h2 => ⟨h2.1, h2.2.1, h2.2.2.1⟩))
theorem t_people2 {ro : List (List Int32)} {p : xH} (hG : GH jGG p) (hS : C_sh p) (hZ : C_sz p) (hC : C_cr p) (a0 a1 a2 : Int32) {n m d d' : Nat} :
    hP ro n d (11, 4, 1, 1, k126) 0 (lv_args 0 [.ref 0, .int a0, .int a1, .int a2]) [] p (fun v1 p1 => hP ro m d' (12, 7, 1, 1, k186) 0 (lv_args 0 [.ref 66, .int a0, .int a1, .int a2]) [] p1 (fun v2 p2 => v1 = v2 ∧ hNt T_pers p p2 ∧ C_sz p2 ∧ C_cr p2)) :=
  hp_imp (t_people0 hG hS hZ a0 a1 a2) (fun _ _ _ h => hp_imp h (fun _ _ _ h2 => ⟨h2.1, h2.2.1, h2.2.2.1, h2.2.2.2.1 hC⟩))
