/-! the relation of the shelves -/
abbrev F_sh : List (Nat × Nat) := [(57, 1), (61, 9999), (62, 9999), (63, 9999), (64, 9999), (65, 9999), (97, 9999), (98, 9999), (99, 9999)]
/-- what shelf d holds: nothing, a twin, a row -/
def C_s1 (p : xH) (d : Nat) : Prop :=
  ((rI p 61 d).toInt = 0 ∧ (rI p 97 d).toInt = -1) ∨
  ((rI p 61 d).toInt = 1 ∧ 0 ≤ (rI p 97 d).toInt ∧ (rI p 97 d).toInt < (rI p 57 1).toInt ∧ (rI p 97 d).toInt < 50 ∧ (rI p 62 d).toInt = (rI p 97 d).toInt) ∨
  ((rI p 61 d).toInt = 2 ∧ 0 ≤ (rI p 63 d).toInt ∧ (rI p 63 d).toInt ≤ 4 ∧ (rI p 97 d).toInt = 50 + (rI p 63 d).toInt ∧ (rI p 64 d).toInt = (rI p 98 d).toInt)
def C_sh (p : xH) : Prop := (∀ d : Nat, d < 6 → C_s1 p d) ∧ ∀ k, rV p 65 k = rV p 99 k
theorem C_s1_eq {p p1 : xH} {d : Nat} (c : C_s1 p d) (h61 : rI p1 61 d = rI p 61 d) (h62 : rI p1 62 d = rI p 62 d) (h63 : rI p1 63 d = rI p 63 d) (h64 : rI p1 64 d = rI p 64 d) (h97 : rI p1 97 d = rI p 97 d) (h98 : rI p1 98 d = rI p 98 d) (h57 : (rI p 57 1).toInt ≤ (rI p1 57 1).toInt) : C_s1 p1 d := by
  unfold C_s1 at c ⊢
  rw [h61, h62, h63, h64, h97, h98]
  omega
theorem C_sh_fr {p p1 : xH} (h : hSm F_sh p p1) (c : C_sh p) : C_sh p1 :=
  ⟨fun d hd => C_s1_eq (c.1 d hd) (h.int rfl) (h.int rfl) (h.int rfl) (h.int rfl) (h.int rfl) (h.int rfl) (by rw [h.int (r := 57) (k := 1) rfl]; exact Int.le_refl _),
   fun k => by rw [h 65 k rfl, h 99 k rfl]; exact c.2 k⟩
/-- what is written is of one shelf -/
theorem C_sh_1 {p p2 : xH} {x : Nat} (c : C_sh p) (h61 : ∀ d, d ≠ x → rI p2 61 d = rI p 61 d) (h62 : ∀ d, d ≠ x → rI p2 62 d = rI p 62 d) (h63 : ∀ d, d ≠ x → rI p2 63 d = rI p 63 d) (h64 : ∀ d, d ≠ x → rI p2 64 d = rI p 64 d) (h97 : ∀ d, d ≠ x → rI p2 97 d = rI p 97 d) (h98 : ∀ d, d ≠ x → rI p2 98 d = rI p 98 d) (h57 : rI p2 57 1 = rI p 57 1) (hx : C_s1 p2 x) (hr : ∀ k, rV p2 65 k = rV p2 99 k) : C_sh p2 := by
  refine ⟨fun d hd => ?_, hr⟩
  by_cases h : d = x
  · subst h; exact hx
  · exact C_s1_eq (c.1 d hd) (h61 d h) (h62 d h) (h63 d h) (h64 d h) (h97 d h) (h98 d h) (by rw [h57]; exact Int.le_refl _)
theorem gh_64 {p : xH} (h : GH jGG p) (k : Nat) : 0 ≤ (rI p 64 k).toInt ∧ (rI p 64 k).toInt ≤ 60 := gh_any h (r := 64) rfl (by decide) (by decide) k
theorem gh_98 {p : xH} (h : GH jGG p) (k : Nat) : 0 ≤ (rI p 98 k).toInt ∧ (rI p 98 k).toInt ≤ 60 := gh_any h (r := 98) rfl (by decide) (by decide) k
theorem gh_97 {p : xH} (h : GH jGG p) (k : Nat) : -1 ≤ (rI p 97 k).toInt ∧ (rI p 97 k).toInt ≤ 54 := gh_any h (r := 97) rfl (by decide) (by decide) k
theorem rV_J {p : xH} {a b : Nat} (h : ∀ k, rV p a k = rV p b k) (k : Nat) : rJ p a k = rJ p b k := by unfold rJ; rw [h]
theorem t_keep2 {ro : List (List Int32)} {p : xH} (hG : GH jGG p) (hT : C_tw p) (hS : C_sh p) (a0 a1 : Int32) {n m d d' : Nat} :
    hP ro n d (11, 3, 1, 1, k165) 0 (lv_args 0 [.ref 0, .int a0, .int a1]) [] p (fun v1 p1 => hP ro m d' (12, 3, 1, 1, k264) 0 (lv_args 0 [.ref 66, .int a0, .int a1]) [] p1 (fun v2 p2 => v1 = v2 ∧ hNt T_keep p p2 ∧ C_sh p2)) := by
  obtain ⟨hc, hr⟩ := hT
  have hw := hW_of hG
  have hb := gh_bodies hG
  have fin : ∀ (u : Int32) (p1 p2 : xH), 0 ≤ a0.toInt → a0.toInt < 6 → p1 = wV (wV p 61 a0.toInt.toNat (.int u)) 62 a0.toInt.toNat (.int a1) → p2 = wV (wV p1 97 a0.toInt.toNat (.int a1)) 98 a0.toInt.toNat (.int 0) → ((u.toInt = 0 ∧ a1.toInt = -1) ∨ (u.toInt = 1 ∧ 0 ≤ a1.toInt ∧ a1.toInt < (rI p 57 1).toInt)) → hNt T_keep p p2 ∧ C_sh p2 := by
    intro u p1 p2 g1 g2 e1 e2 hu
    have i6 : a0.toInt.toNat < 6 := by omega
    have w1 : hW (wV p 61 a0.toInt.toNat (.int u)) := hW_wV hw rfl
    have w2 : hW p1 := by rw [e1]; exact hW_wV w1 rfl
    have w3 : hW (wV p1 97 a0.toInt.toNat (.int a1)) := hW_wV w2 rfl
    have f61 : ∀ d, rI p2 61 d = if d = a0.toInt.toNat then u else rI p 61 d := fun d => by rw [e2, rI_o (by decide), rI_o (by decide), e1, rI_o (by decide), rI_w hw i6]
    have f62 : ∀ d, rI p2 62 d = if d = a0.toInt.toNat then a1 else rI p 62 d := fun d => by rw [e2, rI_o (by decide), rI_o (by decide), e1, rI_w w1 i6, rI_o (by decide)]
    have f97 : ∀ d, rI p2 97 d = if d = a0.toInt.toNat then a1 else rI p 97 d := fun d => by rw [e2, rI_o (by decide), rI_w w2 i6, e1, rI_o (by decide), rI_o (by decide)]
    have f98 : ∀ d, rI p2 98 d = if d = a0.toInt.toNat then 0 else rI p 98 d := fun d => by rw [e2, rI_w w3 i6, rI_o (by decide), e1, rI_o (by decide), rI_o (by decide)]
    have fo : ∀ r k, r ≠ 61 → r ≠ 62 → r ≠ 97 → r ≠ 98 → rV p2 r k = rV p r k := fun r k q1 q2 q3 q4 => by rw [e2, rV_ne (fun z => absurd z q4), rV_ne (fun z => absurd z q3), e1, rV_ne (fun z => absurd z q2), rV_ne (fun z => absurd z q1)]
    have fi : ∀ r k, r ≠ 61 → r ≠ 62 → r ≠ 97 → r ≠ 98 → rI p2 r k = rI p r k := fun r k q1 q2 q3 q4 => by unfold rI; rw [fo r k q1 q2 q3 q4]
    refine ⟨?_, C_sh_1 (x := a0.toInt.toNat) hS (fun d q => by rw [f61, if_neg q]) (fun d q => by rw [f62, if_neg q]) (fun d q => fi _ _ (by decide) (by decide) (by decide) (by decide)) (fun d q => fi _ _ (by decide) (by decide) (by decide) (by decide)) (fun d q => by rw [f97, if_neg q]) (fun d q => by rw [f98, if_neg q]) (fi _ _ (by decide) (by decide) (by decide) (by decide)) ?_ (fun k => by rw [fo 65 k (by decide) (by decide) (by decide) (by decide), fo 99 k (by decide) (by decide) (by decide) (by decide)]; exact hS.2 k)⟩
    · rw [e2, e1]
      exact ((((hNt.refl _ _).w rfl).w rfl).w rfl).w rfl
    · unfold C_s1
      rw [f61, f62, f97, if_pos rfl, if_pos rfl, if_pos rfl, fi 57 1 (by decide) (by decide) (by decide) (by decide)]
      have := hb.2
      rw [← hc] at this
      omega
  refine X_keep (xi := a0.toInt) (yi := a1.toInt) rfl rfl ?_ ?_ ?_
  · intro h1
    rw [hc] at h1
    refine M_keep (xi := a0.toInt) (yi := a1.toInt) rfl rfl hb.1 ?_ ?_
    · intro h2; exact ⟨rfl, hNt.refl _ _, hS⟩
    · intro p2 e h2 h3 h4; exfalso; omega
  · intro p1 e1 h1 h2 h3
    have f1 : rI p1 66 44 = rI p 66 44 := by rw [e1, rI_o (by decide), rI_o (by decide)]
    refine M_keep (xi := a0.toInt) (yi := a1.toInt) rfl rfl (by rw [f1]; exact hb.1) ?_ ?_
    · intro h4; rw [f1] at h4; exfalso; omega
    · intro p2 e h4 h5 h6; exact ⟨rfl, fin 0 p1 p2 h1 h2 e1 e (Or.inl ⟨by decide, h3⟩)⟩
  · intro p1 e1 h1 h2 h3 h3b
    have f1 : rI p1 66 44 = rI p 66 44 := by rw [e1, rI_o (by decide), rI_o (by decide)]
    refine M_keep (xi := a0.toInt) (yi := a1.toInt) rfl rfl (by rw [f1]; exact hb.1) ?_ ?_
    · intro h4; rw [f1, ← hc] at h4; exfalso; omega
    · intro p2 e h4 h5 h6; exact ⟨rfl, fin 1 p1 p2 h1 h2 e1 e (Or.inr ⟨by decide, h3, h3b⟩)⟩
abbrev T_row : List (Nat × Nat) := [(61, 9999), (63, 9999), (64, 9999), (65, 9999), (97, 9999), (98, 9999), (99, 9999)]
theorem t_row {ro : List (List Int32)} {p : xH} (hG : GH jGG p) (hS : C_sh p) (a0 a1 a2 : Int32) {n m d d' : Nat} :
    hP ro n d (11, 4, 1, 1, k166) 0 (lv_args 0 [.ref 0, .int a0, .int a1, .int a2]) [] p (fun v1 p1 => hP ro m d' (12, 5, 1, 1, k265) 0 (lv_args 0 [.ref 66, .int a0, .int a1, .int a2]) [] p1 (fun v2 p2 => v1 = v2 ∧ hNt T_row p p2 ∧ C_sh p2)) := by
  have hw := hW_of hG
  refine X_row (xi := a0.toInt) (yi := a1.toInt) (wi := a2.toInt) rfl rfl rfl ?_ ?_ ?_
  · intro h1
    refine M_row (xi := a0.toInt) (yi := a1.toInt) (wi := a2.toInt) rfl rfl rfl ?_ ?_ ?_
    · intro h2; exact ⟨rfl, hNt.refl _ _, hS⟩
    · intros; exfalso; omega
    · intros; exfalso; omega
  · intro h1 h2 h3 h4 h5 h6
    refine M_row (xi := a0.toInt) (yi := a1.toInt) (wi := a2.toInt) rfl rfl rfl ?_ ?_ ?_
    · intros; exfalso; omega
    · intros; exact ⟨rfl, hNt.refl _ _, hS⟩
    · intros; exfalso; omega
  · intro q1 p1 h1 h2 h3 h4 h5 h6 e1 o1
    refine hp_hw (fun wp1 => ?_)
    refine M_row (xi := a0.toInt) (yi := a1.toInt) (wi := a2.toInt) rfl rfl rfl ?_ ?_ ?_
    · intros; exfalso; omega
    · intros; exfalso; omega
    · intro q2 p2 u g1 g2 g3 g4 g5 g6 hu e2 o2
      have i6 : a0.toInt.toNat < 6 := by omega
      have w1 : hW (wV p 61 a0.toInt.toNat (.int 2)) := hW_wV hw rfl
      have w2 : hW (wV (wV p 61 a0.toInt.toNat (.int 2)) 63 a0.toInt.toNat (.int a1)) := hW_wV w1 rfl
      have a97 : ∀ j, rI p1 97 j = rI p 97 j := fun j => by rw [o1.int (by decide), e1, rI_o (by decide), rI_o (by decide), rI_o (by decide)]
      have a98 : ∀ j, rI p1 98 j = rI p 98 j := fun j => by rw [o1.int (by decide), e1, rI_o (by decide), rI_o (by decide), rI_o (by decide)]
      have fo : ∀ r k, r ≠ 61 → r ≠ 63 → r ≠ 64 → r ≠ 65 → r ≠ 97 → r ≠ 98 → r ≠ 99 → rV p2 r k = rV p r k := fun r k z1 z2 z3 z4 z5 z6 z7 => by
        rw [o2.1 r k z7, e2, rV_ne (fun z => absurd z z6), rV_ne (fun z => absurd z z5), o1.1 r k z4, e1, rV_ne (fun z => absurd z z3), rV_ne (fun z => absurd z z2), rV_ne (fun z => absurd z z1)]
      have fi : ∀ r k, r ≠ 61 → r ≠ 63 → r ≠ 64 → r ≠ 65 → r ≠ 97 → r ≠ 98 → r ≠ 99 → rI p2 r k = rI p r k := fun r k z1 z2 z3 z4 z5 z6 z7 => by unfold rI; rw [fo r k z1 z2 z3 z4 z5 z6 z7]
      have f61 : ∀ d, rI p2 61 d = if d = a0.toInt.toNat then 2 else rI p 61 d := fun d => by rw [o2.int (by decide), e2, rI_o (by decide), rI_o (by decide), o1.int (by decide), e1, rI_o (by decide), rI_o (by decide), rI_w hw i6]
      have f63 : ∀ d, rI p2 63 d = if d = a0.toInt.toNat then a1 else rI p 63 d := fun d => by rw [o2.int (by decide), e2, rI_o (by decide), rI_o (by decide), o1.int (by decide), e1, rI_o (by decide), rI_w w1 i6, rI_o (by decide)]
      have f64 : ∀ d, rI p2 64 d = if d = a0.toInt.toNat then a2 else rI p 64 d := fun d => by rw [o2.int (by decide), e2, rI_o (by decide), rI_o (by decide), o1.int (by decide), e1, rI_w w2 i6, rI_o (by decide), rI_o (by decide)]
      have hw1 : hW q1 := by rw [e1]; exact hW_wV w2 rfl
      have hN1 : hNt T_row p p1 := by rw [e1] at o1; exact ((((hNt.refl _ p).w rfl).w rfl).w rfl).on o1 (fun _ => rfl)
      have hN2 : hNt T_row p p2 := by rw [e2] at o2; exact ((hN1.w rfl).w rfl).on o2 (fun _ => rfl)
      have w4 : hW (wV p1 97 a0.toInt.toNat (.int u)) := hW_wV wp1 rfl
      have f97 : ∀ d, rI p2 97 d = if d = a0.toInt.toNat then u else rI p 97 d := fun d => by rw [o2.int (by decide), e2, rI_o (by decide), rI_w wp1 i6, a97]
      have f98 : ∀ d, rI p2 98 d = if d = a0.toInt.toNat then a2 else rI p 98 d := fun d => by rw [o2.int (by decide), e2, rI_w w4 i6, rI_o (by decide), a98]
      refine ⟨rfl, hN2, C_sh_1 (x := a0.toInt.toNat) hS (fun d q => by rw [f61, if_neg q]) (fun d q => fi _ _ (by decide) (by decide) (by decide) (by decide) (by decide) (by decide) (by decide)) (fun d q => by rw [f63, if_neg q]) (fun d q => by rw [f64, if_neg q]) (fun d q => by rw [f97, if_neg q]) (fun d q => by rw [f98, if_neg q]) (fi _ _ (by decide) (by decide) (by decide) (by decide) (by decide) (by decide) (by decide)) ?_ (fun k => ?_)⟩
      · unfold C_s1
        rw [f61, f63, f64, f97, f98, if_pos rfl, if_pos rfl, if_pos rfl, if_pos rfl, if_pos rfl]
        have : (2 : Int32).toInt = 2 := by decide
        omega
      · have r65 : rV p2 65 k = if 60 * a0.toInt.toNat ≤ k ∧ k < 60 * a0.toInt.toNat + 60 then .long 0 else rV p 65 k := by
          rw [o2.1 65 k (by decide), e2, rV_ne (fun z => absurd z (by decide)), rV_ne (fun z => absurd z (by decide)), o1.2 k]
          dsimp only
          rw [e1, rV_ne (fun z => absurd z (by decide)), rV_ne (fun z => absurd z (by decide)), rV_ne (fun z => absurd z (by decide))]
        have r99 : rV p2 99 k = if 60 * a0.toInt.toNat ≤ k ∧ k < 60 * a0.toInt.toNat + 60 then .long 0 else rV p 99 k := by
          rw [o2.2 k]
          dsimp only
          rw [e2, rV_ne (fun z => absurd z (by decide)), rV_ne (fun z => absurd z (by decide)), o1.1 99 k (by decide), e1, rV_ne (fun z => absurd z (by decide)), rV_ne (fun z => absurd z (by decide)), rV_ne (fun z => absurd z (by decide))]
        rw [r65, r99, hS.2 k]
abbrev T_put : List (Nat × Nat) := [(65, 9999), (99, 9999)]
theorem t_put {ro : List (List Int32)} {p : xH} (hG : GH jGG p) (hS : C_sh p) (a0 a1 : Int32) (a2 : Int64) {n m d d' : Nat} :
    hP ro n d (11, 6, 1, 1, k167) 0 (lv_args 0 [.ref 0, .int a0, .int a1, .long a2]) [] p (fun v1 p1 => hP ro m d' (12, 6, 1, 1, k268) 0 (lv_args 0 [.ref 66, .int a0, .int a1, .long a2]) [] p1 (fun v2 p2 => v1 = v2 ∧ hNt T_put p p2 ∧ C_sh p2)) := by
  have hw := hW_of hG
  have b64 := gh_64 hG a0.toInt.toNat
  have b98 := gh_98 hG a0.toInt.toNat
  have b97 := gh_97 hG a0.toInt.toNat
  have hs : 0 ≤ a0.toInt → a0.toInt < 6 → C_s1 p a0.toInt.toNat := fun h1 h2 => hS.1 _ (by omega)
  unfold C_s1 at hs
  have same : (some (Value.int (-1)) = some (Value.int (-1))) ∧ hNt T_put p p ∧ C_sh p := ⟨rfl, hNt.refl _ _, hS⟩
  refine X_put (xi := a0.toInt) (yi := a1.toInt) (vi := a2.toInt) rfl rfl rfl b64.2 ?_ ?_ ?_ ?_ ?_
  · intro h1
    refine M_put (xi := a0.toInt) (yi := a1.toInt) (vi := a2.toInt) rfl rfl rfl b98.2 ?_ ?_ ?_ ?_ ?_
    · intros; exact ⟨rfl, hNt.refl _ _, hS⟩
    all_goals (intros; exfalso; omega)
  · intro h1 h2 h3
    have hs := hs h1 h2
    refine M_put (xi := a0.toInt) (yi := a1.toInt) (vi := a2.toInt) rfl rfl rfl b98.2 ?_ ?_ ?_ ?_ ?_
    · intros; exfalso; omega
    · intros; exact ⟨rfl, hNt.refl _ _, hS⟩
    all_goals (intros; exfalso; omega)
  · intro h1 h2 h3 h4
    have hs := hs h1 h2
    refine M_put (xi := a0.toInt) (yi := a1.toInt) (vi := a2.toInt) rfl rfl rfl b98.2 ?_ ?_ ?_ ?_ ?_
    · intros; exfalso; omega
    · intros; exfalso; omega
    · intros; exact ⟨rfl, hNt.refl _ _, hS⟩
    all_goals (intros; exfalso; omega)
  · intro p1 e1 h1 h2 h3 h4 h5
    have hs := hs h1 h2
    have f97 : ∀ j, rI p1 97 j = rI p 97 j := fun j => by rw [e1, rI_o (by decide)]
    have f98 : ∀ j, rI p1 98 j = rI p 98 j := fun j => by rw [e1, rI_o (by decide)]
    refine M_put (xi := a0.toInt) (yi := a1.toInt) (vi := a2.toInt) rfl rfl rfl (by rw [f98]; exact b98.2) ?_ ?_ ?_ ?_ ?_
    · intros; exfalso; omega
    · rw [f97]; intros; exfalso; omega
    · rw [f97]; intros; exfalso; omega
    · rw [f97, f98]
      intro p2 e2 g1 g2 g3 g4 g5
      have hq : (rI p 97 a0.toInt.toNat).toInt - 50 = (rI p 63 a0.toInt.toNat).toInt := by omega
      rw [hq] at e2
      have wp1 : hW p1 := by rw [e1]; exact hW_wV hw rfl
      have i : (60 * a0.toInt + a1.toInt).toNat < 360 := by omega
      have r : ∀ k, rV p2 65 k = rV p2 99 k := by rw [e2, e1]; exact rV_set hw rfl (by decide) i i hS.2
      have fo : ∀ r k, r ≠ 65 → r ≠ 99 → rI p2 r k = rI p r k := fun r k z1 z2 => by rw [e2, rI_o z2, e1, rI_o z1]
      refine ⟨rfl, by rw [e2, e1]; exact ((hNt.refl _ _).w rfl).w rfl, fun d hd => C_s1_eq (hS.1 d hd) (fo _ _ (by decide) (by decide)) (fo _ _ (by decide) (by decide)) (fo _ _ (by decide) (by decide)) (fo _ _ (by decide) (by decide)) (fo _ _ (by decide) (by decide)) (fo _ _ (by decide) (by decide)) (by rw [fo 57 1 (by decide) (by decide)]; exact Int.le_refl _), r⟩
    · rw [f97, f98]; intros; exfalso; omega
  · intro h1 h2 h3 h4
    have hs := hs h1 h2
    refine M_put (xi := a0.toInt) (yi := a1.toInt) (vi := a2.toInt) rfl rfl rfl b98.2 ?_ ?_ ?_ ?_ ?_
    · intros; exfalso; omega
    · intros; exfalso; omega
    · intros; exfalso; omega
    · intros; exfalso; omega
    · intros; exact ⟨rfl, hNt.refl _ _, hS⟩
theorem t_element {ro : List (List Int32)} {p : xH} (hG : GH jGG p) (hS : C_sh p) (a0 a1 : Int32) {n m d d' : Nat} :
    hP ro n d (11, 3, 1, 3, k168) 0 (lv_args 0 [.ref 0, .int a0, .int a1]) [] p (fun v1 p1 => hP ro m d' (12, 3, 1, 3, k269) 0 (lv_args 0 [.ref 66, .int a0, .int a1]) [] p1 (fun v2 p2 => v1 = v2 ∧ hNt [] p p2)) := by
  have b64 := gh_64 hG a0.toInt.toNat
  have b98 := gh_98 hG a0.toInt.toNat
  have b97 := gh_97 hG a0.toInt.toNat
  have hs : 0 ≤ a0.toInt → a0.toInt < 6 → C_s1 p a0.toInt.toNat := fun h1 h2 => hS.1 _ (by omega)
  unfold C_s1 at hs
  refine X_element (xi := a0.toInt) (yi := a1.toInt) rfl rfl b64.2 ?_ ?_ ?_ ?_
  · intro h1
    refine M_element (xi := a0.toInt) (yi := a1.toInt) rfl rfl b98.2 ?_ ?_ ?_ ?_
    · intros; exact ⟨rfl, hNt.refl _ _⟩
    all_goals (intros; exfalso; omega)
  · intro h1 h2 h3
    have hs := hs h1 h2
    refine M_element (xi := a0.toInt) (yi := a1.toInt) rfl rfl b98.2 ?_ ?_ ?_ ?_
    · intros; exfalso; omega
    · intros; exact ⟨rfl, hNt.refl _ _⟩
    all_goals (intros; exfalso; omega)
  · intro h1 h2 h3 h4
    have hs := hs h1 h2
    refine M_element (xi := a0.toInt) (yi := a1.toInt) rfl rfl b98.2 ?_ ?_ ?_ ?_
    · intros; exfalso; omega
    · intros; exfalso; omega
    · intros; exact ⟨rfl, hNt.refl _ _⟩
    · intros; exfalso; omega
  · intro z h1 h2 h3 h4 h5 hz
    have hs := hs h1 h2
    refine M_element (xi := a0.toInt) (yi := a1.toInt) rfl rfl b98.2 ?_ ?_ ?_ ?_
    · intros; exfalso; omega
    · intros; exfalso; omega
    · intros; exfalso; omega
    · intro z2 g1 g2 g3 g4 g5 hz2
      exact ⟨by rw [hz, hz2, rV_J hS.2], hNt.refl _ _⟩
/-- bodies that come: the shelves stay -/
theorem C_sh_body {p p2 : xH} (h : hNt T_body p p2) (hg : (rI p 57 1).toInt ≤ (rI p2 57 1).toInt) (hS : C_sh p) : C_sh p2 :=
  ⟨fun x hx => C_s1_eq (hS.1 x hx) (h.int rfl) (h.int rfl) (h.int rfl) (h.int rfl) (h.int rfl) (h.int rfl) hg, fun k => by rw [h 65 k rfl, h 99 k rfl]; exact hS.2 k⟩
